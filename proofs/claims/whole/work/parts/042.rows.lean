set_option maxHeartbeats 4000000 in
set_option maxRecDepth 100000 in
theorem kX8_checkRoom (l : Launch) (D : va_G) (cI cJ cD : ClassId) (q : Nat → Nat) (hq : gInj q) (N : Nat) (Tn : Int32) (p1 : Int32) (hf : fX8_checkRoom N Tn p1 = some (.inr ())) : Met l yX8_checkRoom wsX8_checkRoom rX8_checkRoom (gP D cI cJ cD [.ref (q 0), .int p1] (w_0_1 q cI cJ cD Tn)) (gQ D none (w_0_1 q cI cJ cD Tn) (gA q [0, 1])) 0 0 (gA q [0, 1]) := by
  refine Met.ofW (cc := cX8_checkRoom) (maxL := 2) (ret := none) (by decide +kernel) rfl ?_
  intro p e s m args below meth c s₁ B hml hv
  obtain ⟨rfl, hP, hE⟩ := hv
  have hx := B.exec
  have hb := B.bytes
  have hr := B.returns
  have hts := atoms_spec (ws := wsX8_checkRoom) B.pre
  have hown : s.vm.findClass RX8 = some m.cls := findClass_of_methodNamed B.named
  have hlocks := B.notSynchronized
  have hS : va_S (gA q [0, 1]) s.heap s.heap [] := va_S.rf
  have hl := lv_entry ([.ref (q 0), .int p1]) (n := 2) (Nat.le_of_ble_eq_true rfl)
  rw [lg_entry_eq]
  generalize (lg_sl ([.ref (q 0), .int p1]) ++ List.replicate (2 - (lg_sl ([.ref (q 0), .int p1])).length) Slot.unset).toArray = ls at hl ⊢
  have hl : lv_has ls 2 [(0, .ref (q 0)), (1, .int p1)] := hl
  have hk10 := hts (.fieldLink RX8 10 "LyndonText" "text" "LLyndonText$Letters;") (by decide +kernel)
  have huX8 : ∀ w ∈ u_ws RX8 TX8 6, w ∈ wsX8_checkRoom := by decide +kernel
  unfold fX8_checkRoom at hf
  refine lv_aload_n hx hb dX8_checkRoom_0 rfl (lv_at hl 0 rfl) ?_
  refine va_get (D := D) (ci := 6) (v := .ref (q 1)) (C := RX8) (T := TX8) (N := 6) hx hb hts huX8 hown hE.1 hP 0 rfl rfl 0 (by decide) hk10 (fun _ h9 => h9) rfl dX8_checkRoom_1 ?_
  obtain ⟨r4, hc, hf⟩ := bn_some hf
  try dsimp only at hf
  refine g_call0 (ws' := (w_0_1 q cI cJ cD Tn)) (st1 := [.int r4]) hq [0, 1] [1] [.inr 0, .inl 0] (va_runV (As := []) (rest := []) ⟨hx, hb, hml, hown, hts⟩ (kX2_count l D cI cJ cD q hq N Tn r4 hc) (cwV 0 hts gX8_checkRoom_X2_count rfl rfl rfl (by decide +kernel) ⟨(Nat.le_of_ble_eq_true rfl), (Nat.le_of_ble_eq_true rfl)⟩) ⟨gP_blind, va_recv hE.1 hP (ci := 2) (q0 := 1) rfl rfl, fun U hU hW => ⟨rfl, by rw [hU]; exact hP.sub (ws' := (w_1 q cI cJ cD Tn)) [1] rfl, gEv.warm hW hE⟩⟩ rfl rfl hl.1 rfl (lv_room (Nat.le_of_ble_eq_true rfl)) dX8_checkRoom_4 ⟨Nat.zero_le _, Nat.zero_le _⟩) hP hS (gSub rfl) rfl rfl rfl rfl rfl (fun H locs hP hS => ?_)
  refine lv_iload_n hx hb dX8_checkRoom_7 rfl (lv_at hl 1 rfl) ?_
  refine lv_iadd hx hb dX8_checkRoom_8 ?_
  refine lv_bipush (v := (64 : Int32)) hx hb dX8_checkRoom_9 (by decide) ?_
  refine lv_icmp_le (tgt := 24) hx hb dX8_checkRoom_11 (by decide) (fun c_1 => ?_) (fun c_1 => ?_)
  · have hf := (if_pos c_1).symm.trans hf
    cases hf
    exact W.vret hx hb hr (fun t ht hW => ⟨⟨rfl, by rw [ht]; exact hP⟩, hS.F ht⟩) hS.2.2 dX8_checkRoom_24
  · have hf := (if_neg c_1).symm.trans hf
    exact nomatch hf
set_option maxHeartbeats 4000000 in
set_option maxRecDepth 100000 in
theorem kX8_checkRoomx (l : Launch) (hlt : l.stackTraces = false) (D : va_G) (cI cJ cD : ClassId) (sa : Nat → Nat) (q : Nat → Nat) (hq : gInj q) (N : Nat) (Tn : Int32) (p1 : Int32) (e0 : Nat) (hf : fX8_checkRoom N Tn p1 = some (.inl e0)) : vx_Met l yX8_checkRoom wsX8_checkRoom rX8_checkRoomx (gPx D cI cJ cD sa (gA q [0, 1]) [.ref (q 0), .int p1] (w_0_1 q cI cJ cD Tn)) (fun _ _ _ _ => False) (gX D (gEn e0) (w_0_1 q cI cJ cD Tn) (gA q [0, 1])) 1 6 (gA q [0, 1]) := by
  refine vx_ofW (cc := cX8_checkRoom) (maxL := 2) (ret := none) (by decide +kernel) rfl ?_
  intro p e s m args below meth c s₁ B hml htab hv
  obtain ⟨rfl, hP, hE, hXe⟩ := hv
  have hx := B.exec
  have hb := B.bytes
  have hr := B.returns
  have hts := atoms_spec (ws := wsX8_checkRoom) B.pre
  have hown : s.vm.findClass RX8 = some m.cls := findClass_of_methodNamed B.named
  have hlocks := B.notSynchronized
  have hS : va_S (gA q [0, 1]) s.heap s.heap [] := va_S.rf
  have hl := lv_entry ([.ref (q 0), .int p1]) (n := 2) (Nat.le_of_ble_eq_true rfl)
  rw [lg_entry_eq]
  generalize (lg_sl ([.ref (q 0), .int p1]) ++ List.replicate (2 - (lg_sl ([.ref (q 0), .int p1])).length) Slot.unset).toArray = ls at hl ⊢
  have hl : lv_has ls 2 [(0, .ref (q 0)), (1, .int p1)] := hl
  have hk10 := hts (.fieldLink RX8 10 "LyndonText" "text" "LLyndonText$Letters;") (by decide +kernel)
  have huX8 : ∀ w ∈ u_ws RX8 TX8 6, w ∈ wsX8_checkRoom := by decide +kernel
  unfold fX8_checkRoom at hf
  refine lv_aload_n hx hb dX8_checkRoom_0 rfl (lv_at hl 0 rfl) ?_
  refine va_get (D := D) (ci := 6) (v := .ref (q 1)) (C := RX8) (T := TX8) (N := 6) hx hb hts huX8 hown hE.1 hP 0 rfl rfl 0 (by decide) hk10 (fun _ h9 => h9) rfl dX8_checkRoom_1 ?_
  obtain ⟨r4, hc, hf⟩ := bn_some hf
  try dsimp only at hf
  refine g_call0 (ws' := (w_0_1 q cI cJ cD Tn)) (st1 := [.int r4]) hq [0, 1] [1] [.inr 0, .inl 0] (va_runV (As := []) (rest := []) ⟨hx, hb, hml, hown, hts⟩ (kX2_count l D cI cJ cD q hq N Tn r4 hc) (cwV 0 hts gX8_checkRoom_X2_count rfl rfl rfl (by decide +kernel) ⟨(Nat.le_of_ble_eq_true rfl), (Nat.le_of_ble_eq_true rfl)⟩) ⟨gP_blind, va_recv hE.1 hP (ci := 2) (q0 := 1) rfl rfl, fun U hU hW => ⟨rfl, by rw [hU]; exact hP.sub (ws' := (w_1 q cI cJ cD Tn)) [1] rfl, gEv.warm hW hE⟩⟩ rfl rfl hl.1 rfl (lv_room (Nat.le_of_ble_eq_true rfl)) dX8_checkRoom_4 ⟨Nat.zero_le _, Nat.zero_le _⟩) hP hS (gSub rfl) rfl rfl rfl rfl rfl (fun H locs hP hS => ?_)
  refine lv_iload_n hx hb dX8_checkRoom_7 rfl (lv_at hl 1 rfl) ?_
  refine lv_iadd hx hb dX8_checkRoom_8 ?_
  refine lv_bipush (v := (64 : Int32)) hx hb dX8_checkRoom_9 (by decide) ?_
  refine lv_icmp_le (tgt := 24) hx hb dX8_checkRoom_11 (by decide) (fun c_1 => ?_) (fun c_1 => ?_)
  · have hf := (if_pos c_1).symm.trans hf
    exact nomatch hf
  · have hf := (if_neg c_1).symm.trans hf
    cases hf
    exact vx_throwS (own := RX8) (cls := "java/lang/IllegalStateException") (text := "the text would have more than 64 letters") (names := ["java/lang/RuntimeException", "java/lang/Exception"]) (ik := 89) (is := 109) (ic := 93) (sa := sa 109) (A := (gA q [0, 1])) hx hb hlt hown (by decide +kernel) (by decide +kernel) (hts (.classLink RX8 89 "java/lang/IllegalStateException") (by decide +kernel)) (hts (.initialized "java/lang/IllegalStateException") (by decide +kernel)) (hXe.1.1 (109, "the text would have more than 64 letters") (by decide +kernel)) (vx_hat (B := gB "java/lang/IllegalStateException") (fun w h => hts w (gw_X8_checkRoom_14 w h)) (gwB_X8_checkRoom_14) (gB_ok hXe.1 (cls := "java/lang/IllegalStateException") (by decide +kernel))) (gwg_X8_checkRoom_14) hXe.2.1 hXe.2.2 hS (hl.1.trans hml.symm) dX8_checkRoom_14 dX8_checkRoom_17 dX8_checkRoom_18 dX8_checkRoom_20 dX8_checkRoom_23 (fun x9 hx9 => (htab x9 hx9).elim) (Nat.le_of_ble_eq_true rfl) (Nat.le_of_ble_eq_true rfl) (Nat.le_of_ble_eq_true rfl) (Nat.le_of_ble_eq_true rfl) hlocks (fun t hv hz hk => ⟨rfl, hP.kept (fun k9 x9 hx9 => hk x9.1 ((hP k9 x9 hx9).lt)), ⟨Nat.le_trans hS.1 hz, fun a9 h1 hn => (hk a9 (Nat.lt_of_lt_of_le h1 hS.1)).trans (hS.2.1 a9 h1 hn)⟩⟩) hS.2.2 (Nat.le_of_ble_eq_true rfl) (Nat.le_of_ble_eq_true rfl)
set_option maxHeartbeats 4000000 in
set_option maxRecDepth 100000 in
theorem kX8_append (l : Launch) (D : va_G) (cI cJ cD : ClassId) (q : Nat → Nat) (hq : gInj q) (N : Nat) (Tn : Int32) (Ta : (Nat → Int32)) (p1 : Int32) (r0 : Int32) (Tn9 : Int32) (Ta9 : (Nat → Int32)) (hf : fX8_append N Tn Ta p1 = some (.inr (r0, Tn9, Ta9))) : Met l yX8_append wsX8_append rX8_append (gP D cI cJ cD [.ref (q 0), .int p1] (w_0_1_2 q cI cJ cD Tn Ta)) (gQ D (some (.int r0)) (w_0_1_2 q cI cJ cD Tn9 Ta9) (gA q [0, 1, 2])) 0 0 (gA q [0, 1, 2]) := by
  refine Met.ofW (cc := cX8_append) (maxL := 2) (ret := (some .int)) (by decide +kernel) rfl ?_
  intro p e s m args below meth c s₁ B hml hv
  obtain ⟨rfl, hP, hE⟩ := hv
  have hx := B.exec
  have hb := B.bytes
  have hr := B.returns
  have hts := atoms_spec (ws := wsX8_append) B.pre
  have hown : s.vm.findClass RX8 = some m.cls := findClass_of_methodNamed B.named
  have hlocks := B.notSynchronized
  have hS : va_S (gA q [0, 1, 2]) s.heap s.heap [] := va_S.rf
  have hl := lv_entry ([.ref (q 0), .int p1]) (n := 2) (Nat.le_of_ble_eq_true rfl)
  rw [lg_entry_eq]
  generalize (lg_sl ([.ref (q 0), .int p1]) ++ List.replicate (2 - (lg_sl ([.ref (q 0), .int p1])).length) Slot.unset).toArray = ls at hl ⊢
  have hl : lv_has ls 2 [(0, .ref (q 0)), (1, .int p1)] := hl
  have hk10 := hts (.fieldLink RX8 10 "LyndonText" "text" "LLyndonText$Letters;") (by decide +kernel)
  have huX8 : ∀ w ∈ u_ws RX8 TX8 6, w ∈ wsX8_append := by decide +kernel
  unfold fX8_append at hf
  refine lv_iload_n hx hb dX8_append_0 rfl (lv_at hl 1 rfl) ?_
  refine lv_iconst (v := (0 : Int32)) hx hb dX8_append_1 (by decide) ?_
  refine lv_bipush (v := (25 : Int32)) hx hb dX8_append_2 (by decide) ?_
  rcases bx_some hf with ⟨e4, hc, hf⟩ | ⟨⟨⟩, hc, hf⟩
  · exact nomatch hf
  try dsimp only at hf
  refine g_call0 (ws' := (w_0_1_2 q cI cJ cD Tn Ta)) (st1 := []) hq [0, 1, 2] [] [.inr 0, .inr 1, .inr 2] (va_runS (As := [.int p1, .int (0 : Int32), .int (25 : Int32)]) (rest := []) ⟨hx, hb, hml, hown, hts⟩ (kX8_checkArgument l D cI cJ cD q hq N p1 (0 : Int32) (25 : Int32) hc) (va_cwS 3 hts gX8_append_X8_checkArgument rfl rfl rfl (by decide +kernel) ⟨(Nat.le_of_ble_eq_true rfl), (Nat.le_of_ble_eq_true rfl)⟩) ⟨gP_blind, fun U hU hW => ⟨rfl, by rw [hU]; exact hP.sub (ws' := (w_0none q cI cJ cD)) [] rfl, gEv.warm hW hE⟩⟩ rfl rfl hl.1 rfl (lv_room (Nat.le_of_ble_eq_true rfl)) dX8_append_4 ⟨Nat.zero_le _, Nat.zero_le _⟩) hP hS (gSub rfl) rfl rfl rfl rfl rfl (fun H locs hP hS => ?_)
  refine lv_aload_n hx hb dX8_append_7 rfl (lv_at hl 0 rfl) ?_
  refine lv_iconst (v := (1 : Int32)) hx hb dX8_append_8 (by decide) ?_
  rcases bx_some hf with ⟨e9, hc, hf⟩ | ⟨⟨⟩, hc, hf⟩
  · exact nomatch hf
  try dsimp only at hf
  refine g_call0 (ws' := (w_0_1_2 q cI cJ cD Tn Ta)) (st1 := []) hq [0, 1, 2] [0, 1] [.inl 0, .inl 1, .inr 2] (va_runV (As := [.int (1 : Int32)]) (rest := []) ⟨hx, hb, hml, hown, hts⟩ (kX8_checkRoom l D cI cJ cD q hq N Tn (1 : Int32) hc) (cwV 1 hts gX8_append_X8_checkRoom rfl rfl rfl (by decide +kernel) ⟨(Nat.le_of_ble_eq_true rfl), (Nat.le_of_ble_eq_true rfl)⟩) ⟨gP_blind, va_recv hE.1 hP (ci := 6) (q0 := 0) rfl rfl, fun U hU hW => ⟨rfl, by rw [hU]; exact hP.sub (ws' := (w_0_1 q cI cJ cD Tn)) [0, 1] rfl, gEv.warm hW hE⟩⟩ rfl rfl hl.1 rfl (lv_room (Nat.le_of_ble_eq_true rfl)) dX8_append_9 ⟨Nat.zero_le _, Nat.zero_le _⟩) hP hS (gSub rfl) rfl rfl rfl rfl rfl (fun H locs hP hS => ?_)
  refine lv_aload_n hx hb dX8_append_12 rfl (lv_at hl 0 rfl) ?_
  refine va_get (D := D) (ci := 6) (v := .ref (q 1)) (C := RX8) (T := TX8) (N := 6) hx hb hts huX8 hown hE.1 hP 0 rfl rfl 0 (by decide) hk10 (fun _ h9 => h9) rfl dX8_append_13 ?_
  refine lv_iload_n hx hb dX8_append_16 rfl (lv_at hl 1 rfl) ?_
  obtain ⟨⟨Tn17, Ta17⟩, hc, hf⟩ := bn_some hf
  try dsimp only at hf
  refine g_call0 (ws' := (w_0_1_2 q cI cJ cD Tn17 Ta17)) (st1 := []) hq [0, 1, 2] [1, 2] [.inr 0, .inl 0, .inl 1] (va_runV (As := [.int p1]) (rest := []) ⟨hx, hb, hml, hown, hts⟩ (kX2_push l D cI cJ cD q hq N Tn Ta p1 Tn17 Ta17 hc) (cwV 1 hts gX8_append_X2_push rfl rfl rfl (by decide +kernel) ⟨(Nat.le_of_ble_eq_true rfl), (Nat.le_of_ble_eq_true rfl)⟩) ⟨gP_blind, va_recv hE.1 hP (ci := 2) (q0 := 1) rfl rfl, fun U hU hW => ⟨rfl, by rw [hU]; exact hP.sub (ws' := (w_1_2 q cI cJ cD Tn Ta)) [1, 2] rfl, gEv.warm hW hE⟩⟩ rfl rfl hl.1 rfl (lv_room (Nat.le_of_ble_eq_true rfl)) dX8_append_17 ⟨Nat.zero_le _, Nat.zero_le _⟩) hP hS (gSub rfl) rfl rfl rfl rfl rfl (fun H locs hP hS => ?_)
  refine lv_aload_n hx hb dX8_append_20 rfl (lv_at hl 0 rfl) ?_
  refine va_get (D := D) (ci := 6) (v := .ref (q 1)) (C := RX8) (T := TX8) (N := 6) hx hb hts huX8 hown hE.1 hP 0 rfl rfl 0 (by decide) hk10 (fun _ h9 => h9) rfl dX8_append_21 ?_
  obtain ⟨r24, hc, hf⟩ := bn_some hf
  try dsimp only at hf
  refine g_call0 (ws' := (w_0_1_2 q cI cJ cD Tn17 Ta17)) (st1 := [.int r24]) hq [0, 1, 2] [1] [.inr 0, .inl 0, .inr 2] (va_runV (As := []) (rest := []) ⟨hx, hb, hml, hown, hts⟩ (kX2_count l D cI cJ cD q hq N Tn17 r24 hc) (cwV 0 hts gX8_append_X2_count rfl rfl rfl (by decide +kernel) ⟨(Nat.le_of_ble_eq_true rfl), (Nat.le_of_ble_eq_true rfl)⟩) ⟨gP_blind, va_recv hE.1 hP (ci := 2) (q0 := 1) rfl rfl, fun U hU hW => ⟨rfl, by rw [hU]; exact hP.sub (ws' := (w_1 q cI cJ cD Tn17)) [1] rfl, gEv.warm hW hE⟩⟩ rfl rfl hl.1 rfl (lv_room (Nat.le_of_ble_eq_true rfl)) dX8_append_24 ⟨Nat.zero_le _, Nat.zero_le _⟩) hP hS (gSub rfl) rfl rfl rfl rfl rfl (fun H locs hP hS => ?_)
  cases hf
  exact W.iret hx hb hr (fun t ht hW => ⟨⟨rfl, by rw [ht]; exact hP⟩, hS.F ht⟩) hS.2.2 dX8_append_27
set_option maxHeartbeats 4000000 in
set_option maxRecDepth 100000 in
theorem kX8_appendx (l : Launch) (hlt : l.stackTraces = false) (D : va_G) (cI cJ cD : ClassId) (sa : Nat → Nat) (q : Nat → Nat) (hq : gInj q) (N : Nat) (Tn : Int32) (Ta : (Nat → Int32)) (p1 : Int32) (e0 : Nat) (Tn9 : Int32) (Ta9 : (Nat → Int32)) (hf : fX8_append N Tn Ta p1 = some (.inl (e0, Tn9, Ta9))) : vx_Met l yX8_append wsX8_append rX8_appendx (gPx D cI cJ cD sa (gA q [0, 1, 2]) [.ref (q 0), .int p1] (w_0_1_2 q cI cJ cD Tn Ta)) (fun _ _ _ _ => False) (gX D (gEn e0) (w_0_1_2 q cI cJ cD Tn9 Ta9) (gA q [0, 1, 2])) 1 6 (gA q [0, 1, 2]) := by
  refine vx_ofW (cc := cX8_append) (maxL := 2) (ret := (some .int)) (by decide +kernel) rfl ?_
  intro p e s m args below meth c s₁ B hml htab hv
  obtain ⟨rfl, hP, hE, hXe⟩ := hv
  have hx := B.exec
  have hb := B.bytes
  have hr := B.returns
  have hts := atoms_spec (ws := wsX8_append) B.pre
  have hown : s.vm.findClass RX8 = some m.cls := findClass_of_methodNamed B.named
  have hlocks := B.notSynchronized
  have hS : va_S (gA q [0, 1, 2]) s.heap s.heap [] := va_S.rf
  have hl := lv_entry ([.ref (q 0), .int p1]) (n := 2) (Nat.le_of_ble_eq_true rfl)
  rw [lg_entry_eq]
  generalize (lg_sl ([.ref (q 0), .int p1]) ++ List.replicate (2 - (lg_sl ([.ref (q 0), .int p1])).length) Slot.unset).toArray = ls at hl ⊢
  have hl : lv_has ls 2 [(0, .ref (q 0)), (1, .int p1)] := hl
  have hk10 := hts (.fieldLink RX8 10 "LyndonText" "text" "LLyndonText$Letters;") (by decide +kernel)
  have huX8 : ∀ w ∈ u_ws RX8 TX8 6, w ∈ wsX8_append := by decide +kernel
  unfold fX8_append at hf
  refine lv_iload_n hx hb dX8_append_0 rfl (lv_at hl 1 rfl) ?_
  refine lv_iconst (v := (0 : Int32)) hx hb dX8_append_1 (by decide) ?_
  refine lv_bipush (v := (25 : Int32)) hx hb dX8_append_2 (by decide) ?_
  rcases bx_some hf with ⟨e4, hc, hf⟩ | ⟨⟨⟩, hc, hf⟩
  · try dsimp only at hf
    refine g_callX (ws' := (w_0_1_2 q cI cJ cD Tn Ta)) hq [0, 1, 2] [] [.inr 0, .inr 1, .inr 2] (vx_runS (As := [.int p1, .int (0 : Int32), .int (25 : Int32)]) (rest := []) ⟨hx, hb, hml, hown, hts⟩ (kX8_checkArgumentx l hlt D cI cJ cD sa q hq N p1 (0 : Int32) (25 : Int32) e4 hc) (va_cwS 3 hts gX8_append_X8_checkArgument rfl rfl rfl (by decide +kernel) ⟨(Nat.le_of_ble_eq_true rfl), (Nat.le_of_ble_eq_true rfl)⟩) ⟨gPx_blind, fun U hU hW => ⟨rfl, by rw [hU]; exact hP.sub (ws' := (w_0none q cI cJ cD)) [] rfl, gEv.warm hW hE, gXe.go hW hS (gMono rfl) hXe hU⟩⟩ rfl rfl hl.1 rfl (lv_room (Nat.le_of_ble_eq_true rfl)) dX8_append_4 ⟨(Nat.le_of_ble_eq_true rfl), (Nat.le_of_ble_eq_true rfl)⟩) hP hS (gSub rfl) rfl rfl rfl rfl (fun ce q9 H locs hP hS hce hcv hcl => ?_)
    cases hf
    exact vx_out (fun x9 hx9 => (htab x9 hx9).elim) hlocks hce hcv hcl (fun t ht hv => ⟨rfl, by rw [ht]; exact hP, hS.F ht⟩) hS.2.2 (Nat.le_of_ble_eq_true rfl) (Nat.le_of_ble_eq_true rfl)
  try dsimp only at hf
  refine g_call0 (ws' := (w_0_1_2 q cI cJ cD Tn Ta)) (st1 := []) hq [0, 1, 2] [] [.inr 0, .inr 1, .inr 2] (va_runS (As := [.int p1, .int (0 : Int32), .int (25 : Int32)]) (rest := []) ⟨hx, hb, hml, hown, hts⟩ (kX8_checkArgument l D cI cJ cD q hq N p1 (0 : Int32) (25 : Int32) hc) (va_cwS 3 hts gX8_append_X8_checkArgument rfl rfl rfl (by decide +kernel) ⟨(Nat.le_of_ble_eq_true rfl), (Nat.le_of_ble_eq_true rfl)⟩) ⟨gP_blind, fun U hU hW => ⟨rfl, by rw [hU]; exact hP.sub (ws' := (w_0none q cI cJ cD)) [] rfl, gEv.warm hW hE⟩⟩ rfl rfl hl.1 rfl (lv_room (Nat.le_of_ble_eq_true rfl)) dX8_append_4 ⟨Nat.zero_le _, Nat.zero_le _⟩) hP hS (gSub rfl) rfl rfl rfl rfl rfl (fun H locs hP hS => ?_)
  refine lv_aload_n hx hb dX8_append_7 rfl (lv_at hl 0 rfl) ?_
  refine lv_iconst (v := (1 : Int32)) hx hb dX8_append_8 (by decide) ?_
  rcases bx_some hf with ⟨e9, hc, hf⟩ | ⟨⟨⟩, hc, hf⟩
  · try dsimp only at hf
    refine g_callX (ws' := (w_0_1_2 q cI cJ cD Tn Ta)) hq [0, 1, 2] [0, 1] [.inl 0, .inl 1, .inr 2] (vx_runV (As := [.int (1 : Int32)]) (rest := []) ⟨hx, hb, hml, hown, hts⟩ (kX8_checkRoomx l hlt D cI cJ cD sa q hq N Tn (1 : Int32) e9 hc) (cwV 1 hts gX8_append_X8_checkRoom rfl rfl rfl (by decide +kernel) ⟨(Nat.le_of_ble_eq_true rfl), (Nat.le_of_ble_eq_true rfl)⟩) ⟨gPx_blind, va_recv hE.1 hP (ci := 6) (q0 := 0) rfl rfl, fun U hU hW => ⟨rfl, by rw [hU]; exact hP.sub (ws' := (w_0_1 q cI cJ cD Tn)) [0, 1] rfl, gEv.warm hW hE, gXe.go hW hS (gMono rfl) hXe hU⟩⟩ rfl rfl hl.1 rfl (lv_room (Nat.le_of_ble_eq_true rfl)) dX8_append_9 ⟨(Nat.le_of_ble_eq_true rfl), (Nat.le_of_ble_eq_true rfl)⟩) hP hS (gSub rfl) rfl rfl rfl rfl (fun ce q9 H locs hP hS hce hcv hcl => ?_)
    cases hf
    exact vx_out (fun x9 hx9 => (htab x9 hx9).elim) hlocks hce hcv hcl (fun t ht hv => ⟨rfl, by rw [ht]; exact hP, hS.F ht⟩) hS.2.2 (Nat.le_of_ble_eq_true rfl) (Nat.le_of_ble_eq_true rfl)
  try dsimp only at hf
  refine g_call0 (ws' := (w_0_1_2 q cI cJ cD Tn Ta)) (st1 := []) hq [0, 1, 2] [0, 1] [.inl 0, .inl 1, .inr 2] (va_runV (As := [.int (1 : Int32)]) (rest := []) ⟨hx, hb, hml, hown, hts⟩ (kX8_checkRoom l D cI cJ cD q hq N Tn (1 : Int32) hc) (cwV 1 hts gX8_append_X8_checkRoom rfl rfl rfl (by decide +kernel) ⟨(Nat.le_of_ble_eq_true rfl), (Nat.le_of_ble_eq_true rfl)⟩) ⟨gP_blind, va_recv hE.1 hP (ci := 6) (q0 := 0) rfl rfl, fun U hU hW => ⟨rfl, by rw [hU]; exact hP.sub (ws' := (w_0_1 q cI cJ cD Tn)) [0, 1] rfl, gEv.warm hW hE⟩⟩ rfl rfl hl.1 rfl (lv_room (Nat.le_of_ble_eq_true rfl)) dX8_append_9 ⟨Nat.zero_le _, Nat.zero_le _⟩) hP hS (gSub rfl) rfl rfl rfl rfl rfl (fun H locs hP hS => ?_)
  refine lv_aload_n hx hb dX8_append_12 rfl (lv_at hl 0 rfl) ?_
  refine va_get (D := D) (ci := 6) (v := .ref (q 1)) (C := RX8) (T := TX8) (N := 6) hx hb hts huX8 hown hE.1 hP 0 rfl rfl 0 (by decide) hk10 (fun _ h9 => h9) rfl dX8_append_13 ?_
  refine lv_iload_n hx hb dX8_append_16 rfl (lv_at hl 1 rfl) ?_
  obtain ⟨⟨Tn17, Ta17⟩, hc, hf⟩ := bn_some hf
  try dsimp only at hf
  refine g_call0 (ws' := (w_0_1_2 q cI cJ cD Tn17 Ta17)) (st1 := []) hq [0, 1, 2] [1, 2] [.inr 0, .inl 0, .inl 1] (va_runV (As := [.int p1]) (rest := []) ⟨hx, hb, hml, hown, hts⟩ (kX2_push l D cI cJ cD q hq N Tn Ta p1 Tn17 Ta17 hc) (cwV 1 hts gX8_append_X2_push rfl rfl rfl (by decide +kernel) ⟨(Nat.le_of_ble_eq_true rfl), (Nat.le_of_ble_eq_true rfl)⟩) ⟨gP_blind, va_recv hE.1 hP (ci := 2) (q0 := 1) rfl rfl, fun U hU hW => ⟨rfl, by rw [hU]; exact hP.sub (ws' := (w_1_2 q cI cJ cD Tn Ta)) [1, 2] rfl, gEv.warm hW hE⟩⟩ rfl rfl hl.1 rfl (lv_room (Nat.le_of_ble_eq_true rfl)) dX8_append_17 ⟨Nat.zero_le _, Nat.zero_le _⟩) hP hS (gSub rfl) rfl rfl rfl rfl rfl (fun H locs hP hS => ?_)
  refine lv_aload_n hx hb dX8_append_20 rfl (lv_at hl 0 rfl) ?_
  refine va_get (D := D) (ci := 6) (v := .ref (q 1)) (C := RX8) (T := TX8) (N := 6) hx hb hts huX8 hown hE.1 hP 0 rfl rfl 0 (by decide) hk10 (fun _ h9 => h9) rfl dX8_append_21 ?_
  obtain ⟨r24, hc, hf⟩ := bn_some hf
  try dsimp only at hf
  refine g_call0 (ws' := (w_0_1_2 q cI cJ cD Tn17 Ta17)) (st1 := [.int r24]) hq [0, 1, 2] [1] [.inr 0, .inl 0, .inr 2] (va_runV (As := []) (rest := []) ⟨hx, hb, hml, hown, hts⟩ (kX2_count l D cI cJ cD q hq N Tn17 r24 hc) (cwV 0 hts gX8_append_X2_count rfl rfl rfl (by decide +kernel) ⟨(Nat.le_of_ble_eq_true rfl), (Nat.le_of_ble_eq_true rfl)⟩) ⟨gP_blind, va_recv hE.1 hP (ci := 2) (q0 := 1) rfl rfl, fun U hU hW => ⟨rfl, by rw [hU]; exact hP.sub (ws' := (w_1 q cI cJ cD Tn17)) [1] rfl, gEv.warm hW hE⟩⟩ rfl rfl hl.1 rfl (lv_room (Nat.le_of_ble_eq_true rfl)) dX8_append_24 ⟨Nat.zero_le _, Nat.zero_le _⟩) hP hS (gSub rfl) rfl rfl rfl rfl rfl (fun H locs hP hS => ?_)
  exact nomatch hf
set_option maxHeartbeats 4000000 in
set_option maxRecDepth 100000 in
theorem kX8_insert (l : Launch) (D : va_G) (cI cJ cD : ClassId) (q : Nat → Nat) (hq : gInj q) (N : Nat) (Tn : Int32) (Ta : (Nat → Int32)) (p1 : Int32) (p2 : Int32) (r0 : Int32) (Tn9 : Int32) (Ta9 : (Nat → Int32)) (hf : fX8_insert N Tn Ta p1 p2 = some (.inr (r0, Tn9, Ta9))) : Met l yX8_insert wsX8_insert rX8_insert (gP D cI cJ cD [.ref (q 0), .int p1, .int p2] (w_0_1_2 q cI cJ cD Tn Ta)) (gQ D (some (.int r0)) (w_0_1_2 q cI cJ cD Tn9 Ta9) (gA q [0, 1, 2])) 0 0 (gA q [0, 1, 2]) := by
  refine Met.ofW (cc := cX8_insert) (maxL := 3) (ret := (some .int)) (by decide +kernel) rfl ?_
  intro p e s m args below meth c s₁ B hml hv
  obtain ⟨rfl, hP, hE⟩ := hv
  have hx := B.exec
  have hb := B.bytes
  have hr := B.returns
  have hts := atoms_spec (ws := wsX8_insert) B.pre
  have hown : s.vm.findClass RX8 = some m.cls := findClass_of_methodNamed B.named
  have hlocks := B.notSynchronized
  have hS : va_S (gA q [0, 1, 2]) s.heap s.heap [] := va_S.rf
  have hl := lv_entry ([.ref (q 0), .int p1, .int p2]) (n := 3) (Nat.le_of_ble_eq_true rfl)
  rw [lg_entry_eq]
  generalize (lg_sl ([.ref (q 0), .int p1, .int p2]) ++ List.replicate (3 - (lg_sl ([.ref (q 0), .int p1, .int p2])).length) Slot.unset).toArray = ls at hl ⊢
  have hl : lv_has ls 3 [(0, .ref (q 0)), (1, .int p1), (2, .int p2)] := hl
  have hk10 := hts (.fieldLink RX8 10 "LyndonText" "text" "LLyndonText$Letters;") (by decide +kernel)
  have huX8 : ∀ w ∈ u_ws RX8 TX8 6, w ∈ wsX8_insert := by decide +kernel
  unfold fX8_insert at hf
  refine lv_iload_n hx hb dX8_insert_0 rfl (lv_at hl 1 rfl) ?_
  refine lv_aload_n hx hb dX8_insert_1 rfl (lv_at hl 0 rfl) ?_
  refine va_get (D := D) (ci := 6) (v := .ref (q 1)) (C := RX8) (T := TX8) (N := 6) hx hb hts huX8 hown hE.1 hP 0 rfl rfl 0 (by decide) hk10 (fun _ h9 => h9) rfl dX8_insert_2 ?_
  obtain ⟨r5, hc, hf⟩ := bn_some hf
  try dsimp only at hf
  refine g_call0 (ws' := (w_0_1_2 q cI cJ cD Tn Ta)) (st1 := [.int r5, .int p1]) hq [0, 1, 2] [1] [.inr 0, .inl 0, .inr 2] (va_runV (As := []) (rest := [.int p1]) ⟨hx, hb, hml, hown, hts⟩ (kX2_count l D cI cJ cD q hq N Tn r5 hc) (cwV 0 hts gX8_insert_X2_count rfl rfl rfl (by decide +kernel) ⟨(Nat.le_of_ble_eq_true rfl), (Nat.le_of_ble_eq_true rfl)⟩) ⟨gP_blind, va_recv hE.1 hP (ci := 2) (q0 := 1) rfl rfl, fun U hU hW => ⟨rfl, by rw [hU]; exact hP.sub (ws' := (w_1 q cI cJ cD Tn)) [1] rfl, gEv.warm hW hE⟩⟩ rfl rfl hl.1 rfl (lv_room (Nat.le_of_ble_eq_true rfl)) dX8_insert_5 ⟨Nat.zero_le _, Nat.zero_le _⟩) hP hS (gSub rfl) rfl rfl rfl rfl rfl (fun H locs hP hS => ?_)
  refine lv_iconst (v := (1 : Int32)) hx hb dX8_insert_8 (by decide) ?_
  refine lv_iadd hx hb dX8_insert_9 ?_
  rcases bx_some hf with ⟨e10, hc, hf⟩ | ⟨⟨⟩, hc, hf⟩
  · exact nomatch hf
  try dsimp only at hf
  refine g_call0 (ws' := (w_0_1_2 q cI cJ cD Tn Ta)) (st1 := []) hq [0, 1, 2] [] [.inr 0, .inr 1, .inr 2] (va_runS (As := [.int p1, .int (r5 + (1 : Int32))]) (rest := []) ⟨hx, hb, hml, hown, hts⟩ (kX8_checkIndex l D cI cJ cD q hq N p1 (r5 + (1 : Int32)) hc) (va_cwS 2 hts gX8_insert_X8_checkIndex rfl rfl rfl (by decide +kernel) ⟨(Nat.le_of_ble_eq_true rfl), (Nat.le_of_ble_eq_true rfl)⟩) ⟨gP_blind, fun U hU hW => ⟨rfl, by rw [hU]; exact hP.sub (ws' := (w_0none q cI cJ cD)) [] rfl, gEv.warm hW hE⟩⟩ rfl rfl hl.1 rfl (lv_room (Nat.le_of_ble_eq_true rfl)) dX8_insert_10 ⟨Nat.zero_le _, Nat.zero_le _⟩) hP hS (gSub rfl) rfl rfl rfl rfl rfl (fun H locs hP hS => ?_)
  refine lv_iload_n hx hb dX8_insert_13 rfl (lv_at hl 2 rfl) ?_
  refine lv_iconst (v := (0 : Int32)) hx hb dX8_insert_14 (by decide) ?_
  refine lv_bipush (v := (25 : Int32)) hx hb dX8_insert_15 (by decide) ?_
  rcases bx_some hf with ⟨e17, hc, hf⟩ | ⟨⟨⟩, hc, hf⟩
  · exact nomatch hf
  try dsimp only at hf
  refine g_call0 (ws' := (w_0_1_2 q cI cJ cD Tn Ta)) (st1 := []) hq [0, 1, 2] [] [.inr 0, .inr 1, .inr 2] (va_runS (As := [.int p2, .int (0 : Int32), .int (25 : Int32)]) (rest := []) ⟨hx, hb, hml, hown, hts⟩ (kX8_checkArgument l D cI cJ cD q hq N p2 (0 : Int32) (25 : Int32) hc) (va_cwS 3 hts gX8_insert_X8_checkArgument rfl rfl rfl (by decide +kernel) ⟨(Nat.le_of_ble_eq_true rfl), (Nat.le_of_ble_eq_true rfl)⟩) ⟨gP_blind, fun U hU hW => ⟨rfl, by rw [hU]; exact hP.sub (ws' := (w_0none q cI cJ cD)) [] rfl, gEv.warm hW hE⟩⟩ rfl rfl hl.1 rfl (lv_room (Nat.le_of_ble_eq_true rfl)) dX8_insert_17 ⟨Nat.zero_le _, Nat.zero_le _⟩) hP hS (gSub rfl) rfl rfl rfl rfl rfl (fun H locs hP hS => ?_)
  refine lv_aload_n hx hb dX8_insert_20 rfl (lv_at hl 0 rfl) ?_
  refine lv_iconst (v := (1 : Int32)) hx hb dX8_insert_21 (by decide) ?_
  rcases bx_some hf with ⟨e22, hc, hf⟩ | ⟨⟨⟩, hc, hf⟩
  · exact nomatch hf
  try dsimp only at hf
  refine g_call0 (ws' := (w_0_1_2 q cI cJ cD Tn Ta)) (st1 := []) hq [0, 1, 2] [0, 1] [.inl 0, .inl 1, .inr 2] (va_runV (As := [.int (1 : Int32)]) (rest := []) ⟨hx, hb, hml, hown, hts⟩ (kX8_checkRoom l D cI cJ cD q hq N Tn (1 : Int32) hc) (cwV 1 hts gX8_insert_X8_checkRoom rfl rfl rfl (by decide +kernel) ⟨(Nat.le_of_ble_eq_true rfl), (Nat.le_of_ble_eq_true rfl)⟩) ⟨gP_blind, va_recv hE.1 hP (ci := 6) (q0 := 0) rfl rfl, fun U hU hW => ⟨rfl, by rw [hU]; exact hP.sub (ws' := (w_0_1 q cI cJ cD Tn)) [0, 1] rfl, gEv.warm hW hE⟩⟩ rfl rfl hl.1 rfl (lv_room (Nat.le_of_ble_eq_true rfl)) dX8_insert_22 ⟨Nat.zero_le _, Nat.zero_le _⟩) hP hS (gSub rfl) rfl rfl rfl rfl rfl (fun H locs hP hS => ?_)
  refine lv_aload_n hx hb dX8_insert_25 rfl (lv_at hl 0 rfl) ?_
  refine va_get (D := D) (ci := 6) (v := .ref (q 1)) (C := RX8) (T := TX8) (N := 6) hx hb hts huX8 hown hE.1 hP 0 rfl rfl 0 (by decide) hk10 (fun _ h9 => h9) rfl dX8_insert_26 ?_
  refine lv_iload_n hx hb dX8_insert_29 rfl (lv_at hl 1 rfl) ?_
  refine lv_iload_n hx hb dX8_insert_30 rfl (lv_at hl 2 rfl) ?_
  obtain ⟨⟨Tn31, Ta31⟩, hc, hf⟩ := bn_some hf
  try dsimp only at hf
  refine g_call0 (ws' := (w_0_1_2 q cI cJ cD Tn31 Ta31)) (st1 := []) hq [0, 1, 2] [1, 2] [.inr 0, .inl 0, .inl 1] (va_runV (As := [.int p1, .int p2]) (rest := []) ⟨hx, hb, hml, hown, hts⟩ (kX2_open l D cI cJ cD q hq N Tn Ta p1 p2 Tn31 Ta31 hc) (cwV 2 hts gX8_insert_X2_open rfl rfl rfl (by decide +kernel) ⟨(Nat.le_of_ble_eq_true rfl), (Nat.le_of_ble_eq_true rfl)⟩) ⟨gP_blind, va_recv hE.1 hP (ci := 2) (q0 := 1) rfl rfl, fun U hU hW => ⟨rfl, by rw [hU]; exact hP.sub (ws' := (w_1_2 q cI cJ cD Tn Ta)) [1, 2] rfl, gEv.warm hW hE⟩⟩ rfl rfl hl.1 rfl (lv_room (Nat.le_of_ble_eq_true rfl)) dX8_insert_31 ⟨Nat.zero_le _, Nat.zero_le _⟩) hP hS (gSub rfl) rfl rfl rfl rfl rfl (fun H locs hP hS => ?_)
  refine lv_aload_n hx hb dX8_insert_34 rfl (lv_at hl 0 rfl) ?_
  refine va_get (D := D) (ci := 6) (v := .ref (q 1)) (C := RX8) (T := TX8) (N := 6) hx hb hts huX8 hown hE.1 hP 0 rfl rfl 0 (by decide) hk10 (fun _ h9 => h9) rfl dX8_insert_35 ?_
  obtain ⟨r38, hc, hf⟩ := bn_some hf
  try dsimp only at hf
  refine g_call0 (ws' := (w_0_1_2 q cI cJ cD Tn31 Ta31)) (st1 := [.int r38]) hq [0, 1, 2] [1] [.inr 0, .inl 0, .inr 2] (va_runV (As := []) (rest := []) ⟨hx, hb, hml, hown, hts⟩ (kX2_count l D cI cJ cD q hq N Tn31 r38 hc) (cwV 0 hts gX8_insert_X2_count rfl rfl rfl (by decide +kernel) ⟨(Nat.le_of_ble_eq_true rfl), (Nat.le_of_ble_eq_true rfl)⟩) ⟨gP_blind, va_recv hE.1 hP (ci := 2) (q0 := 1) rfl rfl, fun U hU hW => ⟨rfl, by rw [hU]; exact hP.sub (ws' := (w_1 q cI cJ cD Tn31)) [1] rfl, gEv.warm hW hE⟩⟩ rfl rfl hl.1 rfl (lv_room (Nat.le_of_ble_eq_true rfl)) dX8_insert_38 ⟨Nat.zero_le _, Nat.zero_le _⟩) hP hS (gSub rfl) rfl rfl rfl rfl rfl (fun H locs hP hS => ?_)
  cases hf
  exact W.iret hx hb hr (fun t ht hW => ⟨⟨rfl, by rw [ht]; exact hP⟩, hS.F ht⟩) hS.2.2 dX8_insert_41
set_option maxHeartbeats 4000000 in
set_option maxRecDepth 100000 in
theorem kX8_insertx (l : Launch) (hlt : l.stackTraces = false) (D : va_G) (cI cJ cD : ClassId) (sa : Nat → Nat) (q : Nat → Nat) (hq : gInj q) (N : Nat) (Tn : Int32) (Ta : (Nat → Int32)) (p1 : Int32) (p2 : Int32) (e0 : Nat) (Tn9 : Int32) (Ta9 : (Nat → Int32)) (hf : fX8_insert N Tn Ta p1 p2 = some (.inl (e0, Tn9, Ta9))) : vx_Met l yX8_insert wsX8_insert rX8_insertx (gPx D cI cJ cD sa (gA q [0, 1, 2]) [.ref (q 0), .int p1, .int p2] (w_0_1_2 q cI cJ cD Tn Ta)) (fun _ _ _ _ => False) (gX D (gEn e0) (w_0_1_2 q cI cJ cD Tn9 Ta9) (gA q [0, 1, 2])) 1 6 (gA q [0, 1, 2]) := by
  refine vx_ofW (cc := cX8_insert) (maxL := 3) (ret := (some .int)) (by decide +kernel) rfl ?_
  intro p e s m args below meth c s₁ B hml htab hv
  obtain ⟨rfl, hP, hE, hXe⟩ := hv
  have hx := B.exec
  have hb := B.bytes
  have hr := B.returns
  have hts := atoms_spec (ws := wsX8_insert) B.pre
  have hown : s.vm.findClass RX8 = some m.cls := findClass_of_methodNamed B.named
  have hlocks := B.notSynchronized
  have hS : va_S (gA q [0, 1, 2]) s.heap s.heap [] := va_S.rf
  have hl := lv_entry ([.ref (q 0), .int p1, .int p2]) (n := 3) (Nat.le_of_ble_eq_true rfl)
  rw [lg_entry_eq]
  generalize (lg_sl ([.ref (q 0), .int p1, .int p2]) ++ List.replicate (3 - (lg_sl ([.ref (q 0), .int p1, .int p2])).length) Slot.unset).toArray = ls at hl ⊢
  have hl : lv_has ls 3 [(0, .ref (q 0)), (1, .int p1), (2, .int p2)] := hl
  have hk10 := hts (.fieldLink RX8 10 "LyndonText" "text" "LLyndonText$Letters;") (by decide +kernel)
  have huX8 : ∀ w ∈ u_ws RX8 TX8 6, w ∈ wsX8_insert := by decide +kernel
  unfold fX8_insert at hf
  refine lv_iload_n hx hb dX8_insert_0 rfl (lv_at hl 1 rfl) ?_
  refine lv_aload_n hx hb dX8_insert_1 rfl (lv_at hl 0 rfl) ?_
  refine va_get (D := D) (ci := 6) (v := .ref (q 1)) (C := RX8) (T := TX8) (N := 6) hx hb hts huX8 hown hE.1 hP 0 rfl rfl 0 (by decide) hk10 (fun _ h9 => h9) rfl dX8_insert_2 ?_
  obtain ⟨r5, hc, hf⟩ := bn_some hf
  try dsimp only at hf
  refine g_call0 (ws' := (w_0_1_2 q cI cJ cD Tn Ta)) (st1 := [.int r5, .int p1]) hq [0, 1, 2] [1] [.inr 0, .inl 0, .inr 2] (va_runV (As := []) (rest := [.int p1]) ⟨hx, hb, hml, hown, hts⟩ (kX2_count l D cI cJ cD q hq N Tn r5 hc) (cwV 0 hts gX8_insert_X2_count rfl rfl rfl (by decide +kernel) ⟨(Nat.le_of_ble_eq_true rfl), (Nat.le_of_ble_eq_true rfl)⟩) ⟨gP_blind, va_recv hE.1 hP (ci := 2) (q0 := 1) rfl rfl, fun U hU hW => ⟨rfl, by rw [hU]; exact hP.sub (ws' := (w_1 q cI cJ cD Tn)) [1] rfl, gEv.warm hW hE⟩⟩ rfl rfl hl.1 rfl (lv_room (Nat.le_of_ble_eq_true rfl)) dX8_insert_5 ⟨Nat.zero_le _, Nat.zero_le _⟩) hP hS (gSub rfl) rfl rfl rfl rfl rfl (fun H locs hP hS => ?_)
  refine lv_iconst (v := (1 : Int32)) hx hb dX8_insert_8 (by decide) ?_
  refine lv_iadd hx hb dX8_insert_9 ?_
  rcases bx_some hf with ⟨e10, hc, hf⟩ | ⟨⟨⟩, hc, hf⟩
  · try dsimp only at hf
    refine g_callX (ws' := (w_0_1_2 q cI cJ cD Tn Ta)) hq [0, 1, 2] [] [.inr 0, .inr 1, .inr 2] (vx_runS (As := [.int p1, .int (r5 + (1 : Int32))]) (rest := []) ⟨hx, hb, hml, hown, hts⟩ (kX8_checkIndexx l hlt D cI cJ cD sa q hq N p1 (r5 + (1 : Int32)) e10 hc) (va_cwS 2 hts gX8_insert_X8_checkIndex rfl rfl rfl (by decide +kernel) ⟨(Nat.le_of_ble_eq_true rfl), (Nat.le_of_ble_eq_true rfl)⟩) ⟨gPx_blind, fun U hU hW => ⟨rfl, by rw [hU]; exact hP.sub (ws' := (w_0none q cI cJ cD)) [] rfl, gEv.warm hW hE, gXe.go hW hS (gMono rfl) hXe hU⟩⟩ rfl rfl hl.1 rfl (lv_room (Nat.le_of_ble_eq_true rfl)) dX8_insert_10 ⟨(Nat.le_of_ble_eq_true rfl), (Nat.le_of_ble_eq_true rfl)⟩) hP hS (gSub rfl) rfl rfl rfl rfl (fun ce q9 H locs hP hS hce hcv hcl => ?_)
    cases hf
    exact vx_out (fun x9 hx9 => (htab x9 hx9).elim) hlocks hce hcv hcl (fun t ht hv => ⟨rfl, by rw [ht]; exact hP, hS.F ht⟩) hS.2.2 (Nat.le_of_ble_eq_true rfl) (Nat.le_of_ble_eq_true rfl)
  try dsimp only at hf
  refine g_call0 (ws' := (w_0_1_2 q cI cJ cD Tn Ta)) (st1 := []) hq [0, 1, 2] [] [.inr 0, .inr 1, .inr 2] (va_runS (As := [.int p1, .int (r5 + (1 : Int32))]) (rest := []) ⟨hx, hb, hml, hown, hts⟩ (kX8_checkIndex l D cI cJ cD q hq N p1 (r5 + (1 : Int32)) hc) (va_cwS 2 hts gX8_insert_X8_checkIndex rfl rfl rfl (by decide +kernel) ⟨(Nat.le_of_ble_eq_true rfl), (Nat.le_of_ble_eq_true rfl)⟩) ⟨gP_blind, fun U hU hW => ⟨rfl, by rw [hU]; exact hP.sub (ws' := (w_0none q cI cJ cD)) [] rfl, gEv.warm hW hE⟩⟩ rfl rfl hl.1 rfl (lv_room (Nat.le_of_ble_eq_true rfl)) dX8_insert_10 ⟨Nat.zero_le _, Nat.zero_le _⟩) hP hS (gSub rfl) rfl rfl rfl rfl rfl (fun H locs hP hS => ?_)
  refine lv_iload_n hx hb dX8_insert_13 rfl (lv_at hl 2 rfl) ?_
  refine lv_iconst (v := (0 : Int32)) hx hb dX8_insert_14 (by decide) ?_
  refine lv_bipush (v := (25 : Int32)) hx hb dX8_insert_15 (by decide) ?_
  rcases bx_some hf with ⟨e17, hc, hf⟩ | ⟨⟨⟩, hc, hf⟩
  · try dsimp only at hf
    refine g_callX (ws' := (w_0_1_2 q cI cJ cD Tn Ta)) hq [0, 1, 2] [] [.inr 0, .inr 1, .inr 2] (vx_runS (As := [.int p2, .int (0 : Int32), .int (25 : Int32)]) (rest := []) ⟨hx, hb, hml, hown, hts⟩ (kX8_checkArgumentx l hlt D cI cJ cD sa q hq N p2 (0 : Int32) (25 : Int32) e17 hc) (va_cwS 3 hts gX8_insert_X8_checkArgument rfl rfl rfl (by decide +kernel) ⟨(Nat.le_of_ble_eq_true rfl), (Nat.le_of_ble_eq_true rfl)⟩) ⟨gPx_blind, fun U hU hW => ⟨rfl, by rw [hU]; exact hP.sub (ws' := (w_0none q cI cJ cD)) [] rfl, gEv.warm hW hE, gXe.go hW hS (gMono rfl) hXe hU⟩⟩ rfl rfl hl.1 rfl (lv_room (Nat.le_of_ble_eq_true rfl)) dX8_insert_17 ⟨(Nat.le_of_ble_eq_true rfl), (Nat.le_of_ble_eq_true rfl)⟩) hP hS (gSub rfl) rfl rfl rfl rfl (fun ce q9 H locs hP hS hce hcv hcl => ?_)
    cases hf
    exact vx_out (fun x9 hx9 => (htab x9 hx9).elim) hlocks hce hcv hcl (fun t ht hv => ⟨rfl, by rw [ht]; exact hP, hS.F ht⟩) hS.2.2 (Nat.le_of_ble_eq_true rfl) (Nat.le_of_ble_eq_true rfl)
  try dsimp only at hf
  refine g_call0 (ws' := (w_0_1_2 q cI cJ cD Tn Ta)) (st1 := []) hq [0, 1, 2] [] [.inr 0, .inr 1, .inr 2] (va_runS (As := [.int p2, .int (0 : Int32), .int (25 : Int32)]) (rest := []) ⟨hx, hb, hml, hown, hts⟩ (kX8_checkArgument l D cI cJ cD q hq N p2 (0 : Int32) (25 : Int32) hc) (va_cwS 3 hts gX8_insert_X8_checkArgument rfl rfl rfl (by decide +kernel) ⟨(Nat.le_of_ble_eq_true rfl), (Nat.le_of_ble_eq_true rfl)⟩) ⟨gP_blind, fun U hU hW => ⟨rfl, by rw [hU]; exact hP.sub (ws' := (w_0none q cI cJ cD)) [] rfl, gEv.warm hW hE⟩⟩ rfl rfl hl.1 rfl (lv_room (Nat.le_of_ble_eq_true rfl)) dX8_insert_17 ⟨Nat.zero_le _, Nat.zero_le _⟩) hP hS (gSub rfl) rfl rfl rfl rfl rfl (fun H locs hP hS => ?_)
  refine lv_aload_n hx hb dX8_insert_20 rfl (lv_at hl 0 rfl) ?_
  refine lv_iconst (v := (1 : Int32)) hx hb dX8_insert_21 (by decide) ?_
  rcases bx_some hf with ⟨e22, hc, hf⟩ | ⟨⟨⟩, hc, hf⟩
  · try dsimp only at hf
    refine g_callX (ws' := (w_0_1_2 q cI cJ cD Tn Ta)) hq [0, 1, 2] [0, 1] [.inl 0, .inl 1, .inr 2] (vx_runV (As := [.int (1 : Int32)]) (rest := []) ⟨hx, hb, hml, hown, hts⟩ (kX8_checkRoomx l hlt D cI cJ cD sa q hq N Tn (1 : Int32) e22 hc) (cwV 1 hts gX8_insert_X8_checkRoom rfl rfl rfl (by decide +kernel) ⟨(Nat.le_of_ble_eq_true rfl), (Nat.le_of_ble_eq_true rfl)⟩) ⟨gPx_blind, va_recv hE.1 hP (ci := 6) (q0 := 0) rfl rfl, fun U hU hW => ⟨rfl, by rw [hU]; exact hP.sub (ws' := (w_0_1 q cI cJ cD Tn)) [0, 1] rfl, gEv.warm hW hE, gXe.go hW hS (gMono rfl) hXe hU⟩⟩ rfl rfl hl.1 rfl (lv_room (Nat.le_of_ble_eq_true rfl)) dX8_insert_22 ⟨(Nat.le_of_ble_eq_true rfl), (Nat.le_of_ble_eq_true rfl)⟩) hP hS (gSub rfl) rfl rfl rfl rfl (fun ce q9 H locs hP hS hce hcv hcl => ?_)
    cases hf
    exact vx_out (fun x9 hx9 => (htab x9 hx9).elim) hlocks hce hcv hcl (fun t ht hv => ⟨rfl, by rw [ht]; exact hP, hS.F ht⟩) hS.2.2 (Nat.le_of_ble_eq_true rfl) (Nat.le_of_ble_eq_true rfl)
  try dsimp only at hf
  refine g_call0 (ws' := (w_0_1_2 q cI cJ cD Tn Ta)) (st1 := []) hq [0, 1, 2] [0, 1] [.inl 0, .inl 1, .inr 2] (va_runV (As := [.int (1 : Int32)]) (rest := []) ⟨hx, hb, hml, hown, hts⟩ (kX8_checkRoom l D cI cJ cD q hq N Tn (1 : Int32) hc) (cwV 1 hts gX8_insert_X8_checkRoom rfl rfl rfl (by decide +kernel) ⟨(Nat.le_of_ble_eq_true rfl), (Nat.le_of_ble_eq_true rfl)⟩) ⟨gP_blind, va_recv hE.1 hP (ci := 6) (q0 := 0) rfl rfl, fun U hU hW => ⟨rfl, by rw [hU]; exact hP.sub (ws' := (w_0_1 q cI cJ cD Tn)) [0, 1] rfl, gEv.warm hW hE⟩⟩ rfl rfl hl.1 rfl (lv_room (Nat.le_of_ble_eq_true rfl)) dX8_insert_22 ⟨Nat.zero_le _, Nat.zero_le _⟩) hP hS (gSub rfl) rfl rfl rfl rfl rfl (fun H locs hP hS => ?_)
  refine lv_aload_n hx hb dX8_insert_25 rfl (lv_at hl 0 rfl) ?_
  refine va_get (D := D) (ci := 6) (v := .ref (q 1)) (C := RX8) (T := TX8) (N := 6) hx hb hts huX8 hown hE.1 hP 0 rfl rfl 0 (by decide) hk10 (fun _ h9 => h9) rfl dX8_insert_26 ?_
  refine lv_iload_n hx hb dX8_insert_29 rfl (lv_at hl 1 rfl) ?_
  refine lv_iload_n hx hb dX8_insert_30 rfl (lv_at hl 2 rfl) ?_
  obtain ⟨⟨Tn31, Ta31⟩, hc, hf⟩ := bn_some hf
  try dsimp only at hf
  refine g_call0 (ws' := (w_0_1_2 q cI cJ cD Tn31 Ta31)) (st1 := []) hq [0, 1, 2] [1, 2] [.inr 0, .inl 0, .inl 1] (va_runV (As := [.int p1, .int p2]) (rest := []) ⟨hx, hb, hml, hown, hts⟩ (kX2_open l D cI cJ cD q hq N Tn Ta p1 p2 Tn31 Ta31 hc) (cwV 2 hts gX8_insert_X2_open rfl rfl rfl (by decide +kernel) ⟨(Nat.le_of_ble_eq_true rfl), (Nat.le_of_ble_eq_true rfl)⟩) ⟨gP_blind, va_recv hE.1 hP (ci := 2) (q0 := 1) rfl rfl, fun U hU hW => ⟨rfl, by rw [hU]; exact hP.sub (ws' := (w_1_2 q cI cJ cD Tn Ta)) [1, 2] rfl, gEv.warm hW hE⟩⟩ rfl rfl hl.1 rfl (lv_room (Nat.le_of_ble_eq_true rfl)) dX8_insert_31 ⟨Nat.zero_le _, Nat.zero_le _⟩) hP hS (gSub rfl) rfl rfl rfl rfl rfl (fun H locs hP hS => ?_)
  refine lv_aload_n hx hb dX8_insert_34 rfl (lv_at hl 0 rfl) ?_
  refine va_get (D := D) (ci := 6) (v := .ref (q 1)) (C := RX8) (T := TX8) (N := 6) hx hb hts huX8 hown hE.1 hP 0 rfl rfl 0 (by decide) hk10 (fun _ h9 => h9) rfl dX8_insert_35 ?_
  obtain ⟨r38, hc, hf⟩ := bn_some hf
  try dsimp only at hf
  refine g_call0 (ws' := (w_0_1_2 q cI cJ cD Tn31 Ta31)) (st1 := [.int r38]) hq [0, 1, 2] [1] [.inr 0, .inl 0, .inr 2] (va_runV (As := []) (rest := []) ⟨hx, hb, hml, hown, hts⟩ (kX2_count l D cI cJ cD q hq N Tn31 r38 hc) (cwV 0 hts gX8_insert_X2_count rfl rfl rfl (by decide +kernel) ⟨(Nat.le_of_ble_eq_true rfl), (Nat.le_of_ble_eq_true rfl)⟩) ⟨gP_blind, va_recv hE.1 hP (ci := 2) (q0 := 1) rfl rfl, fun U hU hW => ⟨rfl, by rw [hU]; exact hP.sub (ws' := (w_1 q cI cJ cD Tn31)) [1] rfl, gEv.warm hW hE⟩⟩ rfl rfl hl.1 rfl (lv_room (Nat.le_of_ble_eq_true rfl)) dX8_insert_38 ⟨Nat.zero_le _, Nat.zero_le _⟩) hP hS (gSub rfl) rfl rfl rfl rfl rfl (fun H locs hP hS => ?_)
  exact nomatch hf
set_option maxHeartbeats 4000000 in
set_option maxRecDepth 100000 in
theorem kX8_set (l : Launch) (D : va_G) (cI cJ cD : ClassId) (q : Nat → Nat) (hq : gInj q) (N : Nat) (Tn : Int32) (Ta : (Nat → Int32)) (p1 : Int32) (p2 : Int32) (r0 : Int32) (Ta9 : (Nat → Int32)) (hf : fX8_set N Tn Ta p1 p2 = some (.inr (r0, Ta9))) : Met l yX8_set wsX8_set rX8_set (gP D cI cJ cD [.ref (q 0), .int p1, .int p2] (w_0_1_2 q cI cJ cD Tn Ta)) (gQ D (some (.int r0)) (w_0_1_2 q cI cJ cD Tn Ta9) (gA q [0, 1, 2])) 0 0 (gA q [0, 1, 2]) := by
  refine Met.ofW (cc := cX8_set) (maxL := 4) (ret := (some .int)) (by decide +kernel) rfl ?_
  intro p e s m args below meth c s₁ B hml hv
  obtain ⟨rfl, hP, hE⟩ := hv
  have hx := B.exec
  have hb := B.bytes
  have hr := B.returns
  have hts := atoms_spec (ws := wsX8_set) B.pre
  have hown : s.vm.findClass RX8 = some m.cls := findClass_of_methodNamed B.named
  have hlocks := B.notSynchronized
  have hS : va_S (gA q [0, 1, 2]) s.heap s.heap [] := va_S.rf
  have hl := lv_entry ([.ref (q 0), .int p1, .int p2]) (n := 4) (Nat.le_of_ble_eq_true rfl)
  rw [lg_entry_eq]
  generalize (lg_sl ([.ref (q 0), .int p1, .int p2]) ++ List.replicate (4 - (lg_sl ([.ref (q 0), .int p1, .int p2])).length) Slot.unset).toArray = ls at hl ⊢
  have hl : lv_has ls 4 [(0, .ref (q 0)), (1, .int p1), (2, .int p2)] := hl
  have hk10 := hts (.fieldLink RX8 10 "LyndonText" "text" "LLyndonText$Letters;") (by decide +kernel)
  have huX8 : ∀ w ∈ u_ws RX8 TX8 6, w ∈ wsX8_set := by decide +kernel
  unfold fX8_set at hf
  refine lv_iload_n hx hb dX8_set_0 rfl (lv_at hl 1 rfl) ?_
  refine lv_aload_n hx hb dX8_set_1 rfl (lv_at hl 0 rfl) ?_
  refine va_get (D := D) (ci := 6) (v := .ref (q 1)) (C := RX8) (T := TX8) (N := 6) hx hb hts huX8 hown hE.1 hP 0 rfl rfl 0 (by decide) hk10 (fun _ h9 => h9) rfl dX8_set_2 ?_
  obtain ⟨r5, hc, hf⟩ := bn_some hf
  try dsimp only at hf
  refine g_call0 (ws' := (w_0_1_2 q cI cJ cD Tn Ta)) (st1 := [.int r5, .int p1]) hq [0, 1, 2] [1] [.inr 0, .inl 0, .inr 2] (va_runV (As := []) (rest := [.int p1]) ⟨hx, hb, hml, hown, hts⟩ (kX2_count l D cI cJ cD q hq N Tn r5 hc) (cwV 0 hts gX8_set_X2_count rfl rfl rfl (by decide +kernel) ⟨(Nat.le_of_ble_eq_true rfl), (Nat.le_of_ble_eq_true rfl)⟩) ⟨gP_blind, va_recv hE.1 hP (ci := 2) (q0 := 1) rfl rfl, fun U hU hW => ⟨rfl, by rw [hU]; exact hP.sub (ws' := (w_1 q cI cJ cD Tn)) [1] rfl, gEv.warm hW hE⟩⟩ rfl rfl hl.1 rfl (lv_room (Nat.le_of_ble_eq_true rfl)) dX8_set_5 ⟨Nat.zero_le _, Nat.zero_le _⟩) hP hS (gSub rfl) rfl rfl rfl rfl rfl (fun H locs hP hS => ?_)
  rcases bx_some hf with ⟨e8, hc, hf⟩ | ⟨⟨⟩, hc, hf⟩
  · exact nomatch hf
  try dsimp only at hf
  refine g_call0 (ws' := (w_0_1_2 q cI cJ cD Tn Ta)) (st1 := []) hq [0, 1, 2] [] [.inr 0, .inr 1, .inr 2] (va_runS (As := [.int p1, .int r5]) (rest := []) ⟨hx, hb, hml, hown, hts⟩ (kX8_checkIndex l D cI cJ cD q hq N p1 r5 hc) (va_cwS 2 hts gX8_set_X8_checkIndex rfl rfl rfl (by decide +kernel) ⟨(Nat.le_of_ble_eq_true rfl), (Nat.le_of_ble_eq_true rfl)⟩) ⟨gP_blind, fun U hU hW => ⟨rfl, by rw [hU]; exact hP.sub (ws' := (w_0none q cI cJ cD)) [] rfl, gEv.warm hW hE⟩⟩ rfl rfl hl.1 rfl (lv_room (Nat.le_of_ble_eq_true rfl)) dX8_set_8 ⟨Nat.zero_le _, Nat.zero_le _⟩) hP hS (gSub rfl) rfl rfl rfl rfl rfl (fun H locs hP hS => ?_)
  refine lv_iload_n hx hb dX8_set_11 rfl (lv_at hl 2 rfl) ?_
  refine lv_iconst (v := (0 : Int32)) hx hb dX8_set_12 (by decide) ?_
  refine lv_bipush (v := (25 : Int32)) hx hb dX8_set_13 (by decide) ?_
  rcases bx_some hf with ⟨e15, hc, hf⟩ | ⟨⟨⟩, hc, hf⟩
  · exact nomatch hf
  try dsimp only at hf
  refine g_call0 (ws' := (w_0_1_2 q cI cJ cD Tn Ta)) (st1 := []) hq [0, 1, 2] [] [.inr 0, .inr 1, .inr 2] (va_runS (As := [.int p2, .int (0 : Int32), .int (25 : Int32)]) (rest := []) ⟨hx, hb, hml, hown, hts⟩ (kX8_checkArgument l D cI cJ cD q hq N p2 (0 : Int32) (25 : Int32) hc) (va_cwS 3 hts gX8_set_X8_checkArgument rfl rfl rfl (by decide +kernel) ⟨(Nat.le_of_ble_eq_true rfl), (Nat.le_of_ble_eq_true rfl)⟩) ⟨gP_blind, fun U hU hW => ⟨rfl, by rw [hU]; exact hP.sub (ws' := (w_0none q cI cJ cD)) [] rfl, gEv.warm hW hE⟩⟩ rfl rfl hl.1 rfl (lv_room (Nat.le_of_ble_eq_true rfl)) dX8_set_15 ⟨Nat.zero_le _, Nat.zero_le _⟩) hP hS (gSub rfl) rfl rfl rfl rfl rfl (fun H locs hP hS => ?_)
  refine lv_aload_n hx hb dX8_set_18 rfl (lv_at hl 0 rfl) ?_
  refine va_get (D := D) (ci := 6) (v := .ref (q 1)) (C := RX8) (T := TX8) (N := 6) hx hb hts huX8 hown hE.1 hP 0 rfl rfl 0 (by decide) hk10 (fun _ h9 => h9) rfl dX8_set_19 ?_
  refine lv_iload_n hx hb dX8_set_22 rfl (lv_at hl 1 rfl) ?_
  obtain ⟨r23, hc, hf⟩ := bn_some hf
  try dsimp only at hf
  refine g_call0 (ws' := (w_0_1_2 q cI cJ cD Tn Ta)) (st1 := [.int r23]) hq [0, 1, 2] [1, 2] [.inr 0, .inl 0, .inl 1] (va_runV (As := [.int p1]) (rest := []) ⟨hx, hb, hml, hown, hts⟩ (kX2_letter l D cI cJ cD q hq N Tn Ta p1 r23 hc) (cwV 1 hts gX8_set_X2_letter rfl rfl rfl (by decide +kernel) ⟨(Nat.le_of_ble_eq_true rfl), (Nat.le_of_ble_eq_true rfl)⟩) ⟨gP_blind, va_recv hE.1 hP (ci := 2) (q0 := 1) rfl rfl, fun U hU hW => ⟨rfl, by rw [hU]; exact hP.sub (ws' := (w_1_2 q cI cJ cD Tn Ta)) [1, 2] rfl, gEv.warm hW hE⟩⟩ rfl rfl hl.1 rfl (lv_room (Nat.le_of_ble_eq_true rfl)) dX8_set_23 ⟨Nat.zero_le _, Nat.zero_le _⟩) hP hS (gSub rfl) rfl rfl rfl rfl rfl (fun H locs hP hS => ?_)
  refine lv_istore_n (lv' := [(3, .int r23), (0, .ref (q 0)), (1, .int p1), (2, .int p2)]) hx hb dX8_set_26 rfl hl (by decide) rfl (fun ls hl => ?_)
  refine lv_aload_n hx hb dX8_set_27 rfl (lv_at hl 1 rfl) ?_
  refine va_get (D := D) (ci := 6) (v := .ref (q 1)) (C := RX8) (T := TX8) (N := 6) hx hb hts huX8 hown hE.1 hP 0 rfl rfl 0 (by decide) hk10 (fun _ h9 => h9) rfl dX8_set_28 ?_
  refine lv_iload_n hx hb dX8_set_31 rfl (lv_at hl 2 rfl) ?_
  refine lv_iload_n hx hb dX8_set_32 rfl (lv_at hl 3 rfl) ?_
  obtain ⟨Ta33, hc, hf⟩ := bn_some hf
  try dsimp only at hf
  refine g_call0 (ws' := (w_0_1_2 q cI cJ cD Tn Ta33)) (st1 := []) hq [0, 1, 2] [1, 2] [.inr 0, .inl 0, .inl 1] (va_runV (As := [.int p1, .int p2]) (rest := []) ⟨hx, hb, hml, hown, hts⟩ (kX2_write l D cI cJ cD q hq N Tn Ta p1 p2 Ta33 hc) (cwV 2 hts gX8_set_X2_write rfl rfl rfl (by decide +kernel) ⟨(Nat.le_of_ble_eq_true rfl), (Nat.le_of_ble_eq_true rfl)⟩) ⟨gP_blind, va_recv hE.1 hP (ci := 2) (q0 := 1) rfl rfl, fun U hU hW => ⟨rfl, by rw [hU]; exact hP.sub (ws' := (w_1_2 q cI cJ cD Tn Ta)) [1, 2] rfl, gEv.warm hW hE⟩⟩ rfl rfl hl.1 rfl (lv_room (Nat.le_of_ble_eq_true rfl)) dX8_set_33 ⟨Nat.zero_le _, Nat.zero_le _⟩) hP hS (gSub rfl) rfl rfl rfl rfl rfl (fun H locs hP hS => ?_)
  refine lv_iload_n hx hb dX8_set_36 rfl (lv_at hl 0 rfl) ?_
  cases hf
  exact W.iret hx hb hr (fun t ht hW => ⟨⟨rfl, by rw [ht]; exact hP⟩, hS.F ht⟩) hS.2.2 dX8_set_37
set_option maxHeartbeats 4000000 in
set_option maxRecDepth 100000 in
theorem kX8_setx (l : Launch) (hlt : l.stackTraces = false) (D : va_G) (cI cJ cD : ClassId) (sa : Nat → Nat) (q : Nat → Nat) (hq : gInj q) (N : Nat) (Tn : Int32) (Ta : (Nat → Int32)) (p1 : Int32) (p2 : Int32) (e0 : Nat) (Ta9 : (Nat → Int32)) (hf : fX8_set N Tn Ta p1 p2 = some (.inl (e0, Ta9))) : vx_Met l yX8_set wsX8_set rX8_setx (gPx D cI cJ cD sa (gA q [0, 1, 2]) [.ref (q 0), .int p1, .int p2] (w_0_1_2 q cI cJ cD Tn Ta)) (fun _ _ _ _ => False) (gX D (gEn e0) (w_0_1_2 q cI cJ cD Tn Ta9) (gA q [0, 1, 2])) 1 6 (gA q [0, 1, 2]) := by
  refine vx_ofW (cc := cX8_set) (maxL := 4) (ret := (some .int)) (by decide +kernel) rfl ?_
  intro p e s m args below meth c s₁ B hml htab hv
  obtain ⟨rfl, hP, hE, hXe⟩ := hv
  have hx := B.exec
  have hb := B.bytes
  have hr := B.returns
  have hts := atoms_spec (ws := wsX8_set) B.pre
  have hown : s.vm.findClass RX8 = some m.cls := findClass_of_methodNamed B.named
  have hlocks := B.notSynchronized
  have hS : va_S (gA q [0, 1, 2]) s.heap s.heap [] := va_S.rf
  have hl := lv_entry ([.ref (q 0), .int p1, .int p2]) (n := 4) (Nat.le_of_ble_eq_true rfl)
  rw [lg_entry_eq]
  generalize (lg_sl ([.ref (q 0), .int p1, .int p2]) ++ List.replicate (4 - (lg_sl ([.ref (q 0), .int p1, .int p2])).length) Slot.unset).toArray = ls at hl ⊢
  have hl : lv_has ls 4 [(0, .ref (q 0)), (1, .int p1), (2, .int p2)] := hl
  have hk10 := hts (.fieldLink RX8 10 "LyndonText" "text" "LLyndonText$Letters;") (by decide +kernel)
  have huX8 : ∀ w ∈ u_ws RX8 TX8 6, w ∈ wsX8_set := by decide +kernel
  unfold fX8_set at hf
  refine lv_iload_n hx hb dX8_set_0 rfl (lv_at hl 1 rfl) ?_
  refine lv_aload_n hx hb dX8_set_1 rfl (lv_at hl 0 rfl) ?_
  refine va_get (D := D) (ci := 6) (v := .ref (q 1)) (C := RX8) (T := TX8) (N := 6) hx hb hts huX8 hown hE.1 hP 0 rfl rfl 0 (by decide) hk10 (fun _ h9 => h9) rfl dX8_set_2 ?_
  obtain ⟨r5, hc, hf⟩ := bn_some hf
  try dsimp only at hf
  refine g_call0 (ws' := (w_0_1_2 q cI cJ cD Tn Ta)) (st1 := [.int r5, .int p1]) hq [0, 1, 2] [1] [.inr 0, .inl 0, .inr 2] (va_runV (As := []) (rest := [.int p1]) ⟨hx, hb, hml, hown, hts⟩ (kX2_count l D cI cJ cD q hq N Tn r5 hc) (cwV 0 hts gX8_set_X2_count rfl rfl rfl (by decide +kernel) ⟨(Nat.le_of_ble_eq_true rfl), (Nat.le_of_ble_eq_true rfl)⟩) ⟨gP_blind, va_recv hE.1 hP (ci := 2) (q0 := 1) rfl rfl, fun U hU hW => ⟨rfl, by rw [hU]; exact hP.sub (ws' := (w_1 q cI cJ cD Tn)) [1] rfl, gEv.warm hW hE⟩⟩ rfl rfl hl.1 rfl (lv_room (Nat.le_of_ble_eq_true rfl)) dX8_set_5 ⟨Nat.zero_le _, Nat.zero_le _⟩) hP hS (gSub rfl) rfl rfl rfl rfl rfl (fun H locs hP hS => ?_)
  rcases bx_some hf with ⟨e8, hc, hf⟩ | ⟨⟨⟩, hc, hf⟩
  · try dsimp only at hf
    refine g_callX (ws' := (w_0_1_2 q cI cJ cD Tn Ta)) hq [0, 1, 2] [] [.inr 0, .inr 1, .inr 2] (vx_runS (As := [.int p1, .int r5]) (rest := []) ⟨hx, hb, hml, hown, hts⟩ (kX8_checkIndexx l hlt D cI cJ cD sa q hq N p1 r5 e8 hc) (va_cwS 2 hts gX8_set_X8_checkIndex rfl rfl rfl (by decide +kernel) ⟨(Nat.le_of_ble_eq_true rfl), (Nat.le_of_ble_eq_true rfl)⟩) ⟨gPx_blind, fun U hU hW => ⟨rfl, by rw [hU]; exact hP.sub (ws' := (w_0none q cI cJ cD)) [] rfl, gEv.warm hW hE, gXe.go hW hS (gMono rfl) hXe hU⟩⟩ rfl rfl hl.1 rfl (lv_room (Nat.le_of_ble_eq_true rfl)) dX8_set_8 ⟨(Nat.le_of_ble_eq_true rfl), (Nat.le_of_ble_eq_true rfl)⟩) hP hS (gSub rfl) rfl rfl rfl rfl (fun ce q9 H locs hP hS hce hcv hcl => ?_)
    cases hf
    exact vx_out (fun x9 hx9 => (htab x9 hx9).elim) hlocks hce hcv hcl (fun t ht hv => ⟨rfl, by rw [ht]; exact hP, hS.F ht⟩) hS.2.2 (Nat.le_of_ble_eq_true rfl) (Nat.le_of_ble_eq_true rfl)
  try dsimp only at hf
  refine g_call0 (ws' := (w_0_1_2 q cI cJ cD Tn Ta)) (st1 := []) hq [0, 1, 2] [] [.inr 0, .inr 1, .inr 2] (va_runS (As := [.int p1, .int r5]) (rest := []) ⟨hx, hb, hml, hown, hts⟩ (kX8_checkIndex l D cI cJ cD q hq N p1 r5 hc) (va_cwS 2 hts gX8_set_X8_checkIndex rfl rfl rfl (by decide +kernel) ⟨(Nat.le_of_ble_eq_true rfl), (Nat.le_of_ble_eq_true rfl)⟩) ⟨gP_blind, fun U hU hW => ⟨rfl, by rw [hU]; exact hP.sub (ws' := (w_0none q cI cJ cD)) [] rfl, gEv.warm hW hE⟩⟩ rfl rfl hl.1 rfl (lv_room (Nat.le_of_ble_eq_true rfl)) dX8_set_8 ⟨Nat.zero_le _, Nat.zero_le _⟩) hP hS (gSub rfl) rfl rfl rfl rfl rfl (fun H locs hP hS => ?_)
  refine lv_iload_n hx hb dX8_set_11 rfl (lv_at hl 2 rfl) ?_
  refine lv_iconst (v := (0 : Int32)) hx hb dX8_set_12 (by decide) ?_
  refine lv_bipush (v := (25 : Int32)) hx hb dX8_set_13 (by decide) ?_
  rcases bx_some hf with ⟨e15, hc, hf⟩ | ⟨⟨⟩, hc, hf⟩
  · try dsimp only at hf
    refine g_callX (ws' := (w_0_1_2 q cI cJ cD Tn Ta)) hq [0, 1, 2] [] [.inr 0, .inr 1, .inr 2] (vx_runS (As := [.int p2, .int (0 : Int32), .int (25 : Int32)]) (rest := []) ⟨hx, hb, hml, hown, hts⟩ (kX8_checkArgumentx l hlt D cI cJ cD sa q hq N p2 (0 : Int32) (25 : Int32) e15 hc) (va_cwS 3 hts gX8_set_X8_checkArgument rfl rfl rfl (by decide +kernel) ⟨(Nat.le_of_ble_eq_true rfl), (Nat.le_of_ble_eq_true rfl)⟩) ⟨gPx_blind, fun U hU hW => ⟨rfl, by rw [hU]; exact hP.sub (ws' := (w_0none q cI cJ cD)) [] rfl, gEv.warm hW hE, gXe.go hW hS (gMono rfl) hXe hU⟩⟩ rfl rfl hl.1 rfl (lv_room (Nat.le_of_ble_eq_true rfl)) dX8_set_15 ⟨(Nat.le_of_ble_eq_true rfl), (Nat.le_of_ble_eq_true rfl)⟩) hP hS (gSub rfl) rfl rfl rfl rfl (fun ce q9 H locs hP hS hce hcv hcl => ?_)
    cases hf
    exact vx_out (fun x9 hx9 => (htab x9 hx9).elim) hlocks hce hcv hcl (fun t ht hv => ⟨rfl, by rw [ht]; exact hP, hS.F ht⟩) hS.2.2 (Nat.le_of_ble_eq_true rfl) (Nat.le_of_ble_eq_true rfl)
  try dsimp only at hf
  refine g_call0 (ws' := (w_0_1_2 q cI cJ cD Tn Ta)) (st1 := []) hq [0, 1, 2] [] [.inr 0, .inr 1, .inr 2] (va_runS (As := [.int p2, .int (0 : Int32), .int (25 : Int32)]) (rest := []) ⟨hx, hb, hml, hown, hts⟩ (kX8_checkArgument l D cI cJ cD q hq N p2 (0 : Int32) (25 : Int32) hc) (va_cwS 3 hts gX8_set_X8_checkArgument rfl rfl rfl (by decide +kernel) ⟨(Nat.le_of_ble_eq_true rfl), (Nat.le_of_ble_eq_true rfl)⟩) ⟨gP_blind, fun U hU hW => ⟨rfl, by rw [hU]; exact hP.sub (ws' := (w_0none q cI cJ cD)) [] rfl, gEv.warm hW hE⟩⟩ rfl rfl hl.1 rfl (lv_room (Nat.le_of_ble_eq_true rfl)) dX8_set_15 ⟨Nat.zero_le _, Nat.zero_le _⟩) hP hS (gSub rfl) rfl rfl rfl rfl rfl (fun H locs hP hS => ?_)
  refine lv_aload_n hx hb dX8_set_18 rfl (lv_at hl 0 rfl) ?_
  refine va_get (D := D) (ci := 6) (v := .ref (q 1)) (C := RX8) (T := TX8) (N := 6) hx hb hts huX8 hown hE.1 hP 0 rfl rfl 0 (by decide) hk10 (fun _ h9 => h9) rfl dX8_set_19 ?_
  refine lv_iload_n hx hb dX8_set_22 rfl (lv_at hl 1 rfl) ?_
  obtain ⟨r23, hc, hf⟩ := bn_some hf
  try dsimp only at hf
  refine g_call0 (ws' := (w_0_1_2 q cI cJ cD Tn Ta)) (st1 := [.int r23]) hq [0, 1, 2] [1, 2] [.inr 0, .inl 0, .inl 1] (va_runV (As := [.int p1]) (rest := []) ⟨hx, hb, hml, hown, hts⟩ (kX2_letter l D cI cJ cD q hq N Tn Ta p1 r23 hc) (cwV 1 hts gX8_set_X2_letter rfl rfl rfl (by decide +kernel) ⟨(Nat.le_of_ble_eq_true rfl), (Nat.le_of_ble_eq_true rfl)⟩) ⟨gP_blind, va_recv hE.1 hP (ci := 2) (q0 := 1) rfl rfl, fun U hU hW => ⟨rfl, by rw [hU]; exact hP.sub (ws' := (w_1_2 q cI cJ cD Tn Ta)) [1, 2] rfl, gEv.warm hW hE⟩⟩ rfl rfl hl.1 rfl (lv_room (Nat.le_of_ble_eq_true rfl)) dX8_set_23 ⟨Nat.zero_le _, Nat.zero_le _⟩) hP hS (gSub rfl) rfl rfl rfl rfl rfl (fun H locs hP hS => ?_)
  refine lv_istore_n (lv' := [(3, .int r23), (0, .ref (q 0)), (1, .int p1), (2, .int p2)]) hx hb dX8_set_26 rfl hl (by decide) rfl (fun ls hl => ?_)
  refine lv_aload_n hx hb dX8_set_27 rfl (lv_at hl 1 rfl) ?_
  refine va_get (D := D) (ci := 6) (v := .ref (q 1)) (C := RX8) (T := TX8) (N := 6) hx hb hts huX8 hown hE.1 hP 0 rfl rfl 0 (by decide) hk10 (fun _ h9 => h9) rfl dX8_set_28 ?_
  refine lv_iload_n hx hb dX8_set_31 rfl (lv_at hl 2 rfl) ?_
  refine lv_iload_n hx hb dX8_set_32 rfl (lv_at hl 3 rfl) ?_
  obtain ⟨Ta33, hc, hf⟩ := bn_some hf
  try dsimp only at hf
  refine g_call0 (ws' := (w_0_1_2 q cI cJ cD Tn Ta33)) (st1 := []) hq [0, 1, 2] [1, 2] [.inr 0, .inl 0, .inl 1] (va_runV (As := [.int p1, .int p2]) (rest := []) ⟨hx, hb, hml, hown, hts⟩ (kX2_write l D cI cJ cD q hq N Tn Ta p1 p2 Ta33 hc) (cwV 2 hts gX8_set_X2_write rfl rfl rfl (by decide +kernel) ⟨(Nat.le_of_ble_eq_true rfl), (Nat.le_of_ble_eq_true rfl)⟩) ⟨gP_blind, va_recv hE.1 hP (ci := 2) (q0 := 1) rfl rfl, fun U hU hW => ⟨rfl, by rw [hU]; exact hP.sub (ws' := (w_1_2 q cI cJ cD Tn Ta)) [1, 2] rfl, gEv.warm hW hE⟩⟩ rfl rfl hl.1 rfl (lv_room (Nat.le_of_ble_eq_true rfl)) dX8_set_33 ⟨Nat.zero_le _, Nat.zero_le _⟩) hP hS (gSub rfl) rfl rfl rfl rfl rfl (fun H locs hP hS => ?_)
  refine lv_iload_n hx hb dX8_set_36 rfl (lv_at hl 0 rfl) ?_
  exact nomatch hf
set_option maxHeartbeats 4000000 in
set_option maxRecDepth 100000 in
theorem kX8_remove (l : Launch) (D : va_G) (cI cJ cD : ClassId) (q : Nat → Nat) (hq : gInj q) (N : Nat) (Tn : Int32) (Ta : (Nat → Int32)) (p1 : Int32) (r0 : Int32) (Tn9 : Int32) (Ta9 : (Nat → Int32)) (hf : fX8_remove N Tn Ta p1 = some (.inr (r0, Tn9, Ta9))) : Met l yX8_remove wsX8_remove rX8_remove (gP D cI cJ cD [.ref (q 0), .int p1] (w_0_1_2 q cI cJ cD Tn Ta)) (gQ D (some (.int r0)) (w_0_1_2 q cI cJ cD Tn9 Ta9) (gA q [0, 1, 2])) 0 0 (gA q [0, 1, 2]) := by
  refine Met.ofW (cc := cX8_remove) (maxL := 2) (ret := (some .int)) (by decide +kernel) rfl ?_
  intro p e s m args below meth c s₁ B hml hv
  obtain ⟨rfl, hP, hE⟩ := hv
  have hx := B.exec
  have hb := B.bytes
  have hr := B.returns
  have hts := atoms_spec (ws := wsX8_remove) B.pre
  have hown : s.vm.findClass RX8 = some m.cls := findClass_of_methodNamed B.named
  have hlocks := B.notSynchronized
  have hS : va_S (gA q [0, 1, 2]) s.heap s.heap [] := va_S.rf
  have hl := lv_entry ([.ref (q 0), .int p1]) (n := 2) (Nat.le_of_ble_eq_true rfl)
  rw [lg_entry_eq]
  generalize (lg_sl ([.ref (q 0), .int p1]) ++ List.replicate (2 - (lg_sl ([.ref (q 0), .int p1])).length) Slot.unset).toArray = ls at hl ⊢
  have hl : lv_has ls 2 [(0, .ref (q 0)), (1, .int p1)] := hl
  have hk10 := hts (.fieldLink RX8 10 "LyndonText" "text" "LLyndonText$Letters;") (by decide +kernel)
  have huX8 : ∀ w ∈ u_ws RX8 TX8 6, w ∈ wsX8_remove := by decide +kernel
  unfold fX8_remove at hf
  refine lv_iload_n hx hb dX8_remove_0 rfl (lv_at hl 1 rfl) ?_
  refine lv_aload_n hx hb dX8_remove_1 rfl (lv_at hl 0 rfl) ?_
  refine va_get (D := D) (ci := 6) (v := .ref (q 1)) (C := RX8) (T := TX8) (N := 6) hx hb hts huX8 hown hE.1 hP 0 rfl rfl 0 (by decide) hk10 (fun _ h9 => h9) rfl dX8_remove_2 ?_
  obtain ⟨r5, hc, hf⟩ := bn_some hf
  try dsimp only at hf
  refine g_call0 (ws' := (w_0_1_2 q cI cJ cD Tn Ta)) (st1 := [.int r5, .int p1]) hq [0, 1, 2] [1] [.inr 0, .inl 0, .inr 2] (va_runV (As := []) (rest := [.int p1]) ⟨hx, hb, hml, hown, hts⟩ (kX2_count l D cI cJ cD q hq N Tn r5 hc) (cwV 0 hts gX8_remove_X2_count rfl rfl rfl (by decide +kernel) ⟨(Nat.le_of_ble_eq_true rfl), (Nat.le_of_ble_eq_true rfl)⟩) ⟨gP_blind, va_recv hE.1 hP (ci := 2) (q0 := 1) rfl rfl, fun U hU hW => ⟨rfl, by rw [hU]; exact hP.sub (ws' := (w_1 q cI cJ cD Tn)) [1] rfl, gEv.warm hW hE⟩⟩ rfl rfl hl.1 rfl (lv_room (Nat.le_of_ble_eq_true rfl)) dX8_remove_5 ⟨Nat.zero_le _, Nat.zero_le _⟩) hP hS (gSub rfl) rfl rfl rfl rfl rfl (fun H locs hP hS => ?_)
  rcases bx_some hf with ⟨e8, hc, hf⟩ | ⟨⟨⟩, hc, hf⟩
  · exact nomatch hf
  try dsimp only at hf
  refine g_call0 (ws' := (w_0_1_2 q cI cJ cD Tn Ta)) (st1 := []) hq [0, 1, 2] [] [.inr 0, .inr 1, .inr 2] (va_runS (As := [.int p1, .int r5]) (rest := []) ⟨hx, hb, hml, hown, hts⟩ (kX8_checkIndex l D cI cJ cD q hq N p1 r5 hc) (va_cwS 2 hts gX8_remove_X8_checkIndex rfl rfl rfl (by decide +kernel) ⟨(Nat.le_of_ble_eq_true rfl), (Nat.le_of_ble_eq_true rfl)⟩) ⟨gP_blind, fun U hU hW => ⟨rfl, by rw [hU]; exact hP.sub (ws' := (w_0none q cI cJ cD)) [] rfl, gEv.warm hW hE⟩⟩ rfl rfl hl.1 rfl (lv_room (Nat.le_of_ble_eq_true rfl)) dX8_remove_8 ⟨Nat.zero_le _, Nat.zero_le _⟩) hP hS (gSub rfl) rfl rfl rfl rfl rfl (fun H locs hP hS => ?_)
  refine lv_aload_n hx hb dX8_remove_11 rfl (lv_at hl 0 rfl) ?_
  refine va_get (D := D) (ci := 6) (v := .ref (q 1)) (C := RX8) (T := TX8) (N := 6) hx hb hts huX8 hown hE.1 hP 0 rfl rfl 0 (by decide) hk10 (fun _ h9 => h9) rfl dX8_remove_12 ?_
  refine lv_iload_n hx hb dX8_remove_15 rfl (lv_at hl 1 rfl) ?_
  obtain ⟨⟨r16, Tn16, Ta16⟩, hc, hf⟩ := bn_some hf
  try dsimp only at hf
  refine g_call0 (ws' := (w_0_1_2 q cI cJ cD Tn16 Ta16)) (st1 := [.int r16]) hq [0, 1, 2] [1, 2] [.inr 0, .inl 0, .inl 1] (va_runV (As := [.int p1]) (rest := []) ⟨hx, hb, hml, hown, hts⟩ (kX2_take l D cI cJ cD q hq N Tn Ta p1 r16 Tn16 Ta16 hc) (cwV 1 hts gX8_remove_X2_take rfl rfl rfl (by decide +kernel) ⟨(Nat.le_of_ble_eq_true rfl), (Nat.le_of_ble_eq_true rfl)⟩) ⟨gP_blind, va_recv hE.1 hP (ci := 2) (q0 := 1) rfl rfl, fun U hU hW => ⟨rfl, by rw [hU]; exact hP.sub (ws' := (w_1_2 q cI cJ cD Tn Ta)) [1, 2] rfl, gEv.warm hW hE⟩⟩ rfl rfl hl.1 rfl (lv_room (Nat.le_of_ble_eq_true rfl)) dX8_remove_16 ⟨Nat.zero_le _, Nat.zero_le _⟩) hP hS (gSub rfl) rfl rfl rfl rfl rfl (fun H locs hP hS => ?_)
  cases hf
  exact W.iret hx hb hr (fun t ht hW => ⟨⟨rfl, by rw [ht]; exact hP⟩, hS.F ht⟩) hS.2.2 dX8_remove_19
set_option maxHeartbeats 4000000 in
set_option maxRecDepth 100000 in
theorem kX8_removex (l : Launch) (hlt : l.stackTraces = false) (D : va_G) (cI cJ cD : ClassId) (sa : Nat → Nat) (q : Nat → Nat) (hq : gInj q) (N : Nat) (Tn : Int32) (Ta : (Nat → Int32)) (p1 : Int32) (e0 : Nat) (Tn9 : Int32) (Ta9 : (Nat → Int32)) (hf : fX8_remove N Tn Ta p1 = some (.inl (e0, Tn9, Ta9))) : vx_Met l yX8_remove wsX8_remove rX8_removex (gPx D cI cJ cD sa (gA q [0, 1, 2]) [.ref (q 0), .int p1] (w_0_1_2 q cI cJ cD Tn Ta)) (fun _ _ _ _ => False) (gX D (gEn e0) (w_0_1_2 q cI cJ cD Tn9 Ta9) (gA q [0, 1, 2])) 1 6 (gA q [0, 1, 2]) := by
  refine vx_ofW (cc := cX8_remove) (maxL := 2) (ret := (some .int)) (by decide +kernel) rfl ?_
  intro p e s m args below meth c s₁ B hml htab hv
  obtain ⟨rfl, hP, hE, hXe⟩ := hv
  have hx := B.exec
  have hb := B.bytes
  have hr := B.returns
  have hts := atoms_spec (ws := wsX8_remove) B.pre
  have hown : s.vm.findClass RX8 = some m.cls := findClass_of_methodNamed B.named
  have hlocks := B.notSynchronized
  have hS : va_S (gA q [0, 1, 2]) s.heap s.heap [] := va_S.rf
  have hl := lv_entry ([.ref (q 0), .int p1]) (n := 2) (Nat.le_of_ble_eq_true rfl)
  rw [lg_entry_eq]
  generalize (lg_sl ([.ref (q 0), .int p1]) ++ List.replicate (2 - (lg_sl ([.ref (q 0), .int p1])).length) Slot.unset).toArray = ls at hl ⊢
  have hl : lv_has ls 2 [(0, .ref (q 0)), (1, .int p1)] := hl
  have hk10 := hts (.fieldLink RX8 10 "LyndonText" "text" "LLyndonText$Letters;") (by decide +kernel)
  have huX8 : ∀ w ∈ u_ws RX8 TX8 6, w ∈ wsX8_remove := by decide +kernel
  unfold fX8_remove at hf
  refine lv_iload_n hx hb dX8_remove_0 rfl (lv_at hl 1 rfl) ?_
  refine lv_aload_n hx hb dX8_remove_1 rfl (lv_at hl 0 rfl) ?_
  refine va_get (D := D) (ci := 6) (v := .ref (q 1)) (C := RX8) (T := TX8) (N := 6) hx hb hts huX8 hown hE.1 hP 0 rfl rfl 0 (by decide) hk10 (fun _ h9 => h9) rfl dX8_remove_2 ?_
  obtain ⟨r5, hc, hf⟩ := bn_some hf
  try dsimp only at hf
  refine g_call0 (ws' := (w_0_1_2 q cI cJ cD Tn Ta)) (st1 := [.int r5, .int p1]) hq [0, 1, 2] [1] [.inr 0, .inl 0, .inr 2] (va_runV (As := []) (rest := [.int p1]) ⟨hx, hb, hml, hown, hts⟩ (kX2_count l D cI cJ cD q hq N Tn r5 hc) (cwV 0 hts gX8_remove_X2_count rfl rfl rfl (by decide +kernel) ⟨(Nat.le_of_ble_eq_true rfl), (Nat.le_of_ble_eq_true rfl)⟩) ⟨gP_blind, va_recv hE.1 hP (ci := 2) (q0 := 1) rfl rfl, fun U hU hW => ⟨rfl, by rw [hU]; exact hP.sub (ws' := (w_1 q cI cJ cD Tn)) [1] rfl, gEv.warm hW hE⟩⟩ rfl rfl hl.1 rfl (lv_room (Nat.le_of_ble_eq_true rfl)) dX8_remove_5 ⟨Nat.zero_le _, Nat.zero_le _⟩) hP hS (gSub rfl) rfl rfl rfl rfl rfl (fun H locs hP hS => ?_)
  rcases bx_some hf with ⟨e8, hc, hf⟩ | ⟨⟨⟩, hc, hf⟩
  · try dsimp only at hf
    refine g_callX (ws' := (w_0_1_2 q cI cJ cD Tn Ta)) hq [0, 1, 2] [] [.inr 0, .inr 1, .inr 2] (vx_runS (As := [.int p1, .int r5]) (rest := []) ⟨hx, hb, hml, hown, hts⟩ (kX8_checkIndexx l hlt D cI cJ cD sa q hq N p1 r5 e8 hc) (va_cwS 2 hts gX8_remove_X8_checkIndex rfl rfl rfl (by decide +kernel) ⟨(Nat.le_of_ble_eq_true rfl), (Nat.le_of_ble_eq_true rfl)⟩) ⟨gPx_blind, fun U hU hW => ⟨rfl, by rw [hU]; exact hP.sub (ws' := (w_0none q cI cJ cD)) [] rfl, gEv.warm hW hE, gXe.go hW hS (gMono rfl) hXe hU⟩⟩ rfl rfl hl.1 rfl (lv_room (Nat.le_of_ble_eq_true rfl)) dX8_remove_8 ⟨(Nat.le_of_ble_eq_true rfl), (Nat.le_of_ble_eq_true rfl)⟩) hP hS (gSub rfl) rfl rfl rfl rfl (fun ce q9 H locs hP hS hce hcv hcl => ?_)
    cases hf
    exact vx_out (fun x9 hx9 => (htab x9 hx9).elim) hlocks hce hcv hcl (fun t ht hv => ⟨rfl, by rw [ht]; exact hP, hS.F ht⟩) hS.2.2 (Nat.le_of_ble_eq_true rfl) (Nat.le_of_ble_eq_true rfl)
  try dsimp only at hf
  refine g_call0 (ws' := (w_0_1_2 q cI cJ cD Tn Ta)) (st1 := []) hq [0, 1, 2] [] [.inr 0, .inr 1, .inr 2] (va_runS (As := [.int p1, .int r5]) (rest := []) ⟨hx, hb, hml, hown, hts⟩ (kX8_checkIndex l D cI cJ cD q hq N p1 r5 hc) (va_cwS 2 hts gX8_remove_X8_checkIndex rfl rfl rfl (by decide +kernel) ⟨(Nat.le_of_ble_eq_true rfl), (Nat.le_of_ble_eq_true rfl)⟩) ⟨gP_blind, fun U hU hW => ⟨rfl, by rw [hU]; exact hP.sub (ws' := (w_0none q cI cJ cD)) [] rfl, gEv.warm hW hE⟩⟩ rfl rfl hl.1 rfl (lv_room (Nat.le_of_ble_eq_true rfl)) dX8_remove_8 ⟨Nat.zero_le _, Nat.zero_le _⟩) hP hS (gSub rfl) rfl rfl rfl rfl rfl (fun H locs hP hS => ?_)
  refine lv_aload_n hx hb dX8_remove_11 rfl (lv_at hl 0 rfl) ?_
  refine va_get (D := D) (ci := 6) (v := .ref (q 1)) (C := RX8) (T := TX8) (N := 6) hx hb hts huX8 hown hE.1 hP 0 rfl rfl 0 (by decide) hk10 (fun _ h9 => h9) rfl dX8_remove_12 ?_
  refine lv_iload_n hx hb dX8_remove_15 rfl (lv_at hl 1 rfl) ?_
  obtain ⟨⟨r16, Tn16, Ta16⟩, hc, hf⟩ := bn_some hf
  try dsimp only at hf
  refine g_call0 (ws' := (w_0_1_2 q cI cJ cD Tn16 Ta16)) (st1 := [.int r16]) hq [0, 1, 2] [1, 2] [.inr 0, .inl 0, .inl 1] (va_runV (As := [.int p1]) (rest := []) ⟨hx, hb, hml, hown, hts⟩ (kX2_take l D cI cJ cD q hq N Tn Ta p1 r16 Tn16 Ta16 hc) (cwV 1 hts gX8_remove_X2_take rfl rfl rfl (by decide +kernel) ⟨(Nat.le_of_ble_eq_true rfl), (Nat.le_of_ble_eq_true rfl)⟩) ⟨gP_blind, va_recv hE.1 hP (ci := 2) (q0 := 1) rfl rfl, fun U hU hW => ⟨rfl, by rw [hU]; exact hP.sub (ws' := (w_1_2 q cI cJ cD Tn Ta)) [1, 2] rfl, gEv.warm hW hE⟩⟩ rfl rfl hl.1 rfl (lv_room (Nat.le_of_ble_eq_true rfl)) dX8_remove_16 ⟨Nat.zero_le _, Nat.zero_le _⟩) hP hS (gSub rfl) rfl rfl rfl rfl rfl (fun H locs hP hS => ?_)
  exact nomatch hf
set_option maxHeartbeats 4000000 in
set_option maxRecDepth 100000 in
theorem kX8_clear (l : Launch) (D : va_G) (cI cJ cD : ClassId) (q : Nat → Nat) (hq : gInj q) (N : Nat) (Tn : Int32) (r0 : Int32) (Tn9 : Int32) (hf : fX8_clear N Tn = some (r0, Tn9)) : Met l yX8_clear wsX8_clear rX8_clear (gP D cI cJ cD [.ref (q 0)] (w_0_1 q cI cJ cD Tn)) (gQ D (some (.int r0)) (w_0_1 q cI cJ cD Tn9) (gA q [0, 1])) 0 0 (gA q [0, 1]) := by
  refine Met.ofW (cc := cX8_clear) (maxL := 2) (ret := (some .int)) (by decide +kernel) rfl ?_
  intro p e s m args below meth c s₁ B hml hv
  obtain ⟨rfl, hP, hE⟩ := hv
  have hx := B.exec
  have hb := B.bytes
  have hr := B.returns
  have hts := atoms_spec (ws := wsX8_clear) B.pre
  have hown : s.vm.findClass RX8 = some m.cls := findClass_of_methodNamed B.named
  have hlocks := B.notSynchronized
  have hS : va_S (gA q [0, 1]) s.heap s.heap [] := va_S.rf
  have hl := lv_entry ([.ref (q 0)]) (n := 2) (Nat.le_of_ble_eq_true rfl)
  rw [lg_entry_eq]
  generalize (lg_sl ([.ref (q 0)]) ++ List.replicate (2 - (lg_sl ([.ref (q 0)])).length) Slot.unset).toArray = ls at hl ⊢
  have hl : lv_has ls 2 [(0, .ref (q 0))] := hl
  have hk10 := hts (.fieldLink RX8 10 "LyndonText" "text" "LLyndonText$Letters;") (by decide +kernel)
  have huX8 : ∀ w ∈ u_ws RX8 TX8 6, w ∈ wsX8_clear := by decide +kernel
  unfold fX8_clear at hf
  refine lv_aload_n hx hb dX8_clear_0 rfl (lv_at hl 0 rfl) ?_
  refine va_get (D := D) (ci := 6) (v := .ref (q 1)) (C := RX8) (T := TX8) (N := 6) hx hb hts huX8 hown hE.1 hP 0 rfl rfl 0 (by decide) hk10 (fun _ h9 => h9) rfl dX8_clear_1 ?_
  obtain ⟨r4, hc, hf⟩ := bn_some hf
  try dsimp only at hf
  refine g_call0 (ws' := (w_0_1 q cI cJ cD Tn)) (st1 := [.int r4]) hq [0, 1] [1] [.inr 0, .inl 0] (va_runV (As := []) (rest := []) ⟨hx, hb, hml, hown, hts⟩ (kX2_count l D cI cJ cD q hq N Tn r4 hc) (cwV 0 hts gX8_clear_X2_count rfl rfl rfl (by decide +kernel) ⟨(Nat.le_of_ble_eq_true rfl), (Nat.le_of_ble_eq_true rfl)⟩) ⟨gP_blind, va_recv hE.1 hP (ci := 2) (q0 := 1) rfl rfl, fun U hU hW => ⟨rfl, by rw [hU]; exact hP.sub (ws' := (w_1 q cI cJ cD Tn)) [1] rfl, gEv.warm hW hE⟩⟩ rfl rfl hl.1 rfl (lv_room (Nat.le_of_ble_eq_true rfl)) dX8_clear_4 ⟨Nat.zero_le _, Nat.zero_le _⟩) hP hS (gSub rfl) rfl rfl rfl rfl rfl (fun H locs hP hS => ?_)
  refine lv_istore_n (lv' := [(1, .int r4), (0, .ref (q 0))]) hx hb dX8_clear_7 rfl hl (by decide) rfl (fun ls hl => ?_)
  refine lv_aload_n hx hb dX8_clear_8 rfl (lv_at hl 1 rfl) ?_
  refine va_get (D := D) (ci := 6) (v := .ref (q 1)) (C := RX8) (T := TX8) (N := 6) hx hb hts huX8 hown hE.1 hP 0 rfl rfl 0 (by decide) hk10 (fun _ h9 => h9) rfl dX8_clear_9 ?_
  obtain ⟨Tn12, hc, hf⟩ := bn_some hf
  try dsimp only at hf
  refine g_call0 (ws' := (w_0_1 q cI cJ cD Tn12)) (st1 := []) hq [0, 1] [1] [.inr 0, .inl 0] (va_runV (As := []) (rest := []) ⟨hx, hb, hml, hown, hts⟩ (kX2_empty l D cI cJ cD q hq N Tn Tn12 hc) (cwV 0 hts gX8_clear_X2_empty rfl rfl rfl (by decide +kernel) ⟨(Nat.le_of_ble_eq_true rfl), (Nat.le_of_ble_eq_true rfl)⟩) ⟨gP_blind, va_recv hE.1 hP (ci := 2) (q0 := 1) rfl rfl, fun U hU hW => ⟨rfl, by rw [hU]; exact hP.sub (ws' := (w_1 q cI cJ cD Tn)) [1] rfl, gEv.warm hW hE⟩⟩ rfl rfl hl.1 rfl (lv_room (Nat.le_of_ble_eq_true rfl)) dX8_clear_12 ⟨Nat.zero_le _, Nat.zero_le _⟩) hP hS (gSub rfl) rfl rfl rfl rfl rfl (fun H locs hP hS => ?_)
  refine lv_iload_n hx hb dX8_clear_15 rfl (lv_at hl 0 rfl) ?_
  cases hf
  exact W.iret hx hb hr (fun t ht hW => ⟨⟨rfl, by rw [ht]; exact hP⟩, hS.F ht⟩) hS.2.2 dX8_clear_16
set_option maxHeartbeats 4000000 in
set_option maxRecDepth 100000 in
theorem kX8_reverse (l : Launch) (D : va_G) (cI cJ cD : ClassId) (q : Nat → Nat) (hq : gInj q) (N : Nat) (Tn : Int32) (Ta : (Nat → Int32)) (r0 : Int32) (Ta9 : (Nat → Int32)) (hf : fX8_reverse N Tn Ta = some (r0, Ta9)) : Met l yX8_reverse wsX8_reverse rX8_reverse (gP D cI cJ cD [.ref (q 0)] (w_0_1_2 q cI cJ cD Tn Ta)) (gQ D (some (.int r0)) (w_0_1_2 q cI cJ cD Tn Ta9) (gA q [0, 1, 2])) 0 0 (gA q [0, 1, 2]) := by
  refine Met.ofW (cc := cX8_reverse) (maxL := 1) (ret := (some .int)) (by decide +kernel) rfl ?_
  intro p e s m args below meth c s₁ B hml hv
  obtain ⟨rfl, hP, hE⟩ := hv
  have hx := B.exec
  have hb := B.bytes
  have hr := B.returns
  have hts := atoms_spec (ws := wsX8_reverse) B.pre
  have hown : s.vm.findClass RX8 = some m.cls := findClass_of_methodNamed B.named
  have hlocks := B.notSynchronized
  have hS : va_S (gA q [0, 1, 2]) s.heap s.heap [] := va_S.rf
  have hl := lv_entry ([.ref (q 0)]) (n := 1) (Nat.le_of_ble_eq_true rfl)
  rw [lg_entry_eq]
  generalize (lg_sl ([.ref (q 0)]) ++ List.replicate (1 - (lg_sl ([.ref (q 0)])).length) Slot.unset).toArray = ls at hl ⊢
  have hl : lv_has ls 1 [(0, .ref (q 0))] := hl
  have hk10 := hts (.fieldLink RX8 10 "LyndonText" "text" "LLyndonText$Letters;") (by decide +kernel)
  have huX8 : ∀ w ∈ u_ws RX8 TX8 6, w ∈ wsX8_reverse := by decide +kernel
  unfold fX8_reverse at hf
  refine lv_aload_n hx hb dX8_reverse_0 rfl (lv_at hl 0 rfl) ?_
  refine va_get (D := D) (ci := 6) (v := .ref (q 1)) (C := RX8) (T := TX8) (N := 6) hx hb hts huX8 hown hE.1 hP 0 rfl rfl 0 (by decide) hk10 (fun _ h9 => h9) rfl dX8_reverse_1 ?_
  refine lv_iconst (v := (0 : Int32)) hx hb dX8_reverse_4 (by decide) ?_
  refine lv_aload_n hx hb dX8_reverse_5 rfl (lv_at hl 0 rfl) ?_
  refine va_get (D := D) (ci := 6) (v := .ref (q 1)) (C := RX8) (T := TX8) (N := 6) hx hb hts huX8 hown hE.1 hP 0 rfl rfl 0 (by decide) hk10 (fun _ h9 => h9) rfl dX8_reverse_6 ?_
  obtain ⟨r9, hc, hf⟩ := bn_some hf
  try dsimp only at hf
  refine g_call0 (ws' := (w_0_1_2 q cI cJ cD Tn Ta)) (st1 := [.int r9, .int (0 : Int32), .ref (q 1)]) hq [0, 1, 2] [1] [.inr 0, .inl 0, .inr 2] (va_runV (As := []) (rest := [.int (0 : Int32), .ref (q 1)]) ⟨hx, hb, hml, hown, hts⟩ (kX2_count l D cI cJ cD q hq N Tn r9 hc) (cwV 0 hts gX8_reverse_X2_count rfl rfl rfl (by decide +kernel) ⟨(Nat.le_of_ble_eq_true rfl), (Nat.le_of_ble_eq_true rfl)⟩) ⟨gP_blind, va_recv hE.1 hP (ci := 2) (q0 := 1) rfl rfl, fun U hU hW => ⟨rfl, by rw [hU]; exact hP.sub (ws' := (w_1 q cI cJ cD Tn)) [1] rfl, gEv.warm hW hE⟩⟩ rfl rfl hl.1 rfl (lv_room (Nat.le_of_ble_eq_true rfl)) dX8_reverse_9 ⟨Nat.zero_le _, Nat.zero_le _⟩) hP hS (gSub rfl) rfl rfl rfl rfl rfl (fun H locs hP hS => ?_)
  obtain ⟨Ta12, hc, hf⟩ := bn_some hf
  try dsimp only at hf
  refine g_call0 (ws' := (w_0_1_2 q cI cJ cD Tn Ta12)) (st1 := []) hq [0, 1, 2] [1, 2] [.inr 0, .inl 0, .inl 1] (va_runV (As := [.int (0 : Int32), .int r9]) (rest := []) ⟨hx, hb, hml, hown, hts⟩ (kX2_turn l D cI cJ cD q hq N Tn Ta (0 : Int32) r9 Ta12 hc) (cwV 2 hts gX8_reverse_X2_turn rfl rfl rfl (by decide +kernel) ⟨(Nat.le_of_ble_eq_true rfl), (Nat.le_of_ble_eq_true rfl)⟩) ⟨gP_blind, va_recv hE.1 hP (ci := 2) (q0 := 1) rfl rfl, fun U hU hW => ⟨rfl, by rw [hU]; exact hP.sub (ws' := (w_1_2 q cI cJ cD Tn Ta)) [1, 2] rfl, gEv.warm hW hE⟩⟩ rfl rfl hl.1 rfl (lv_room (Nat.le_of_ble_eq_true rfl)) dX8_reverse_12 ⟨Nat.zero_le _, Nat.zero_le _⟩) hP hS (gSub rfl) rfl rfl rfl rfl rfl (fun H locs hP hS => ?_)
  refine lv_aload_n hx hb dX8_reverse_15 rfl (lv_at hl 0 rfl) ?_
  refine va_get (D := D) (ci := 6) (v := .ref (q 1)) (C := RX8) (T := TX8) (N := 6) hx hb hts huX8 hown hE.1 hP 0 rfl rfl 0 (by decide) hk10 (fun _ h9 => h9) rfl dX8_reverse_16 ?_
  obtain ⟨r19, hc, hf⟩ := bn_some hf
  try dsimp only at hf
  refine g_call0 (ws' := (w_0_1_2 q cI cJ cD Tn Ta12)) (st1 := [.int r19]) hq [0, 1, 2] [1] [.inr 0, .inl 0, .inr 2] (va_runV (As := []) (rest := []) ⟨hx, hb, hml, hown, hts⟩ (kX2_count l D cI cJ cD q hq N Tn r19 hc) (cwV 0 hts gX8_reverse_X2_count rfl rfl rfl (by decide +kernel) ⟨(Nat.le_of_ble_eq_true rfl), (Nat.le_of_ble_eq_true rfl)⟩) ⟨gP_blind, va_recv hE.1 hP (ci := 2) (q0 := 1) rfl rfl, fun U hU hW => ⟨rfl, by rw [hU]; exact hP.sub (ws' := (w_1 q cI cJ cD Tn)) [1] rfl, gEv.warm hW hE⟩⟩ rfl rfl hl.1 rfl (lv_room (Nat.le_of_ble_eq_true rfl)) dX8_reverse_19 ⟨Nat.zero_le _, Nat.zero_le _⟩) hP hS (gSub rfl) rfl rfl rfl rfl rfl (fun H locs hP hS => ?_)
  cases hf
  exact W.iret hx hb hr (fun t ht hW => ⟨⟨rfl, by rw [ht]; exact hP⟩, hS.F ht⟩) hS.2.2 dX8_reverse_22
set_option maxHeartbeats 4000000 in
set_option maxRecDepth 100000 in
theorem kX8_rotate (l : Launch) (D : va_G) (cI cJ cD : ClassId) (q : Nat → Nat) (hq : gInj q) (N : Nat) (Tn : Int32) (Ta : (Nat → Int32)) (p1 : Int32) (r0 : Int32) (Ta9 : (Nat → Int32)) (hf : fX8_rotate N Tn Ta p1 = some (.inr (r0, Ta9))) : Met l yX8_rotate wsX8_rotate rX8_rotate (gP D cI cJ cD [.ref (q 0), .int p1] (w_0_1_2 q cI cJ cD Tn Ta)) (gQ D (some (.int r0)) (w_0_1_2 q cI cJ cD Tn Ta9) (gA q [0, 1, 2])) 0 0 (gA q [0, 1, 2]) := by
  refine Met.ofW (cc := cX8_rotate) (maxL := 4) (ret := (some .int)) (by decide +kernel) rfl ?_
  intro p e s m args below meth c s₁ B hml hv
  obtain ⟨rfl, hP, hE⟩ := hv
  have hx := B.exec
  have hb := B.bytes
  have hr := B.returns
  have hts := atoms_spec (ws := wsX8_rotate) B.pre
  have hown : s.vm.findClass RX8 = some m.cls := findClass_of_methodNamed B.named
  have hlocks := B.notSynchronized
  have hS : va_S (gA q [0, 1, 2]) s.heap s.heap [] := va_S.rf
  have hl := lv_entry ([.ref (q 0), .int p1]) (n := 4) (Nat.le_of_ble_eq_true rfl)
  rw [lg_entry_eq]
  generalize (lg_sl ([.ref (q 0), .int p1]) ++ List.replicate (4 - (lg_sl ([.ref (q 0), .int p1])).length) Slot.unset).toArray = ls at hl ⊢
  have hl : lv_has ls 4 [(0, .ref (q 0)), (1, .int p1)] := hl
  have hk10 := hts (.fieldLink RX8 10 "LyndonText" "text" "LLyndonText$Letters;") (by decide +kernel)
  have huX8 : ∀ w ∈ u_ws RX8 TX8 6, w ∈ wsX8_rotate := by decide +kernel
  unfold fX8_rotate at hf
  refine lv_iload_n hx hb dX8_rotate_0 rfl (lv_at hl 1 rfl) ?_
  refine lv_iconst (v := (0 : Int32)) hx hb dX8_rotate_1 (by decide) ?_
  refine lv_bipush (v := (63 : Int32)) hx hb dX8_rotate_2 (by decide) ?_
  rcases bx_some hf with ⟨e4, hc, hf⟩ | ⟨⟨⟩, hc, hf⟩
  · exact nomatch hf
  try dsimp only at hf
  refine g_call0 (ws' := (w_0_1_2 q cI cJ cD Tn Ta)) (st1 := []) hq [0, 1, 2] [] [.inr 0, .inr 1, .inr 2] (va_runS (As := [.int p1, .int (0 : Int32), .int (63 : Int32)]) (rest := []) ⟨hx, hb, hml, hown, hts⟩ (kX8_checkArgument l D cI cJ cD q hq N p1 (0 : Int32) (63 : Int32) hc) (va_cwS 3 hts gX8_rotate_X8_checkArgument rfl rfl rfl (by decide +kernel) ⟨(Nat.le_of_ble_eq_true rfl), (Nat.le_of_ble_eq_true rfl)⟩) ⟨gP_blind, fun U hU hW => ⟨rfl, by rw [hU]; exact hP.sub (ws' := (w_0none q cI cJ cD)) [] rfl, gEv.warm hW hE⟩⟩ rfl rfl hl.1 rfl (lv_room (Nat.le_of_ble_eq_true rfl)) dX8_rotate_4 ⟨Nat.zero_le _, Nat.zero_le _⟩) hP hS (gSub rfl) rfl rfl rfl rfl rfl (fun H locs hP hS => ?_)
  refine lv_aload_n hx hb dX8_rotate_7 rfl (lv_at hl 0 rfl) ?_
  refine va_get (D := D) (ci := 6) (v := .ref (q 1)) (C := RX8) (T := TX8) (N := 6) hx hb hts huX8 hown hE.1 hP 0 rfl rfl 0 (by decide) hk10 (fun _ h9 => h9) rfl dX8_rotate_8 ?_
  obtain ⟨r11, hc, hf⟩ := bn_some hf
  try dsimp only at hf
  refine g_call0 (ws' := (w_0_1_2 q cI cJ cD Tn Ta)) (st1 := [.int r11]) hq [0, 1, 2] [1] [.inr 0, .inl 0, .inr 2] (va_runV (As := []) (rest := []) ⟨hx, hb, hml, hown, hts⟩ (kX2_count l D cI cJ cD q hq N Tn r11 hc) (cwV 0 hts gX8_rotate_X2_count rfl rfl rfl (by decide +kernel) ⟨(Nat.le_of_ble_eq_true rfl), (Nat.le_of_ble_eq_true rfl)⟩) ⟨gP_blind, va_recv hE.1 hP (ci := 2) (q0 := 1) rfl rfl, fun U hU hW => ⟨rfl, by rw [hU]; exact hP.sub (ws' := (w_1 q cI cJ cD Tn)) [1] rfl, gEv.warm hW hE⟩⟩ rfl rfl hl.1 rfl (lv_room (Nat.le_of_ble_eq_true rfl)) dX8_rotate_11 ⟨Nat.zero_le _, Nat.zero_le _⟩) hP hS (gSub rfl) rfl rfl rfl rfl rfl (fun H locs hP hS => ?_)
  refine lv_istore_n (lv' := [(2, .int r11), (0, .ref (q 0)), (1, .int p1)]) hx hb dX8_rotate_14 rfl hl (by decide) rfl (fun ls hl => ?_)
  refine lv_iload_n hx hb dX8_rotate_15 rfl (lv_at hl 0 rfl) ?_
  refine lv_if_ne (tgt := 29) hx hb dX8_rotate_16 (by decide) (fun c_1 => ?_) (fun c_1 => ?_)
  · have hf := (if_neg c_1).symm.trans hf
    refine lv_iload_n hx hb dX8_rotate_29 rfl (lv_at hl 2 rfl) ?_
    refine lv_iload_n hx hb dX8_rotate_30 rfl (lv_at hl 0 rfl) ?_
    obtain ⟨g_2, hf⟩ := gd_some hf
    refine lv_irem hx hb dX8_rotate_31 (nz_ne g_2) ?_
    refine lv_istore_n (lv' := [(3, .int (p1 - p1 / r11 * r11)), (2, .int r11), (0, .ref (q 0)), (1, .int p1)]) hx hb dX8_rotate_32 rfl hl (by decide) rfl (fun ls hl => ?_)
    refine lv_aload_n hx hb dX8_rotate_33 rfl (lv_at hl 2 rfl) ?_
    refine va_get (D := D) (ci := 6) (v := .ref (q 1)) (C := RX8) (T := TX8) (N := 6) hx hb hts huX8 hown hE.1 hP 0 rfl rfl 0 (by decide) hk10 (fun _ h9 => h9) rfl dX8_rotate_34 ?_
    refine lv_iconst (v := (0 : Int32)) hx hb dX8_rotate_37 (by decide) ?_
    refine lv_iload_n hx hb dX8_rotate_38 rfl (lv_at hl 0 rfl) ?_
    obtain ⟨Ta39, hc, hf⟩ := bn_some hf
    try dsimp only at hf
    refine g_call0 (ws' := (w_0_1_2 q cI cJ cD Tn Ta39)) (st1 := []) hq [0, 1, 2] [1, 2] [.inr 0, .inl 0, .inl 1] (va_runV (As := [.int (0 : Int32), .int (p1 - p1 / r11 * r11)]) (rest := []) ⟨hx, hb, hml, hown, hts⟩ (kX2_turn l D cI cJ cD q hq N Tn Ta (0 : Int32) (p1 - p1 / r11 * r11) Ta39 hc) (cwV 2 hts gX8_rotate_X2_turn rfl rfl rfl (by decide +kernel) ⟨(Nat.le_of_ble_eq_true rfl), (Nat.le_of_ble_eq_true rfl)⟩) ⟨gP_blind, va_recv hE.1 hP (ci := 2) (q0 := 1) rfl rfl, fun U hU hW => ⟨rfl, by rw [hU]; exact hP.sub (ws' := (w_1_2 q cI cJ cD Tn Ta)) [1, 2] rfl, gEv.warm hW hE⟩⟩ rfl rfl hl.1 rfl (lv_room (Nat.le_of_ble_eq_true rfl)) dX8_rotate_39 ⟨Nat.zero_le _, Nat.zero_le _⟩) hP hS (gSub rfl) rfl rfl rfl rfl rfl (fun H locs hP hS => ?_)
    refine lv_aload_n hx hb dX8_rotate_42 rfl (lv_at hl 2 rfl) ?_
    refine va_get (D := D) (ci := 6) (v := .ref (q 1)) (C := RX8) (T := TX8) (N := 6) hx hb hts huX8 hown hE.1 hP 0 rfl rfl 0 (by decide) hk10 (fun _ h9 => h9) rfl dX8_rotate_43 ?_
    refine lv_iload_n hx hb dX8_rotate_46 rfl (lv_at hl 0 rfl) ?_
    refine lv_iload_n hx hb dX8_rotate_47 rfl (lv_at hl 1 rfl) ?_
    obtain ⟨Ta48, hc, hf⟩ := bn_some hf
    try dsimp only at hf
    refine g_call0 (ws' := (w_0_1_2 q cI cJ cD Tn Ta48)) (st1 := []) hq [0, 1, 2] [1, 2] [.inr 0, .inl 0, .inl 1] (va_runV (As := [.int (p1 - p1 / r11 * r11), .int r11]) (rest := []) ⟨hx, hb, hml, hown, hts⟩ (kX2_turn l D cI cJ cD q hq N Tn Ta39 (p1 - p1 / r11 * r11) r11 Ta48 hc) (cwV 2 hts gX8_rotate_X2_turn rfl rfl rfl (by decide +kernel) ⟨(Nat.le_of_ble_eq_true rfl), (Nat.le_of_ble_eq_true rfl)⟩) ⟨gP_blind, va_recv hE.1 hP (ci := 2) (q0 := 1) rfl rfl, fun U hU hW => ⟨rfl, by rw [hU]; exact hP.sub (ws' := (w_1_2 q cI cJ cD Tn Ta39)) [1, 2] rfl, gEv.warm hW hE⟩⟩ rfl rfl hl.1 rfl (lv_room (Nat.le_of_ble_eq_true rfl)) dX8_rotate_48 ⟨Nat.zero_le _, Nat.zero_le _⟩) hP hS (gSub rfl) rfl rfl rfl rfl rfl (fun H locs hP hS => ?_)
    refine lv_aload_n hx hb dX8_rotate_51 rfl (lv_at hl 2 rfl) ?_
    refine va_get (D := D) (ci := 6) (v := .ref (q 1)) (C := RX8) (T := TX8) (N := 6) hx hb hts huX8 hown hE.1 hP 0 rfl rfl 0 (by decide) hk10 (fun _ h9 => h9) rfl dX8_rotate_52 ?_
    refine lv_iconst (v := (0 : Int32)) hx hb dX8_rotate_55 (by decide) ?_
    refine lv_iload_n hx hb dX8_rotate_56 rfl (lv_at hl 1 rfl) ?_
    obtain ⟨Ta57, hc, hf⟩ := bn_some hf
    try dsimp only at hf
    refine g_call0 (ws' := (w_0_1_2 q cI cJ cD Tn Ta57)) (st1 := []) hq [0, 1, 2] [1, 2] [.inr 0, .inl 0, .inl 1] (va_runV (As := [.int (0 : Int32), .int r11]) (rest := []) ⟨hx, hb, hml, hown, hts⟩ (kX2_turn l D cI cJ cD q hq N Tn Ta48 (0 : Int32) r11 Ta57 hc) (cwV 2 hts gX8_rotate_X2_turn rfl rfl rfl (by decide +kernel) ⟨(Nat.le_of_ble_eq_true rfl), (Nat.le_of_ble_eq_true rfl)⟩) ⟨gP_blind, va_recv hE.1 hP (ci := 2) (q0 := 1) rfl rfl, fun U hU hW => ⟨rfl, by rw [hU]; exact hP.sub (ws' := (w_1_2 q cI cJ cD Tn Ta48)) [1, 2] rfl, gEv.warm hW hE⟩⟩ rfl rfl hl.1 rfl (lv_room (Nat.le_of_ble_eq_true rfl)) dX8_rotate_57 ⟨Nat.zero_le _, Nat.zero_le _⟩) hP hS (gSub rfl) rfl rfl rfl rfl rfl (fun H locs hP hS => ?_)
    refine lv_aload_n hx hb dX8_rotate_60 rfl (lv_at hl 2 rfl) ?_
    refine va_get (D := D) (ci := 6) (v := .ref (q 1)) (C := RX8) (T := TX8) (N := 6) hx hb hts huX8 hown hE.1 hP 0 rfl rfl 0 (by decide) hk10 (fun _ h9 => h9) rfl dX8_rotate_61 ?_
    refine lv_iconst (v := (0 : Int32)) hx hb dX8_rotate_64 (by decide) ?_
    obtain ⟨r65, hc, hf⟩ := bn_some hf
    try dsimp only at hf
    refine g_call0 (ws' := (w_0_1_2 q cI cJ cD Tn Ta57)) (st1 := [.int r65]) hq [0, 1, 2] [1, 2] [.inr 0, .inl 0, .inl 1] (va_runV (As := [.int (0 : Int32)]) (rest := []) ⟨hx, hb, hml, hown, hts⟩ (kX2_letter l D cI cJ cD q hq N Tn Ta57 (0 : Int32) r65 hc) (cwV 1 hts gX8_rotate_X2_letter rfl rfl rfl (by decide +kernel) ⟨(Nat.le_of_ble_eq_true rfl), (Nat.le_of_ble_eq_true rfl)⟩) ⟨gP_blind, va_recv hE.1 hP (ci := 2) (q0 := 1) rfl rfl, fun U hU hW => ⟨rfl, by rw [hU]; exact hP.sub (ws' := (w_1_2 q cI cJ cD Tn Ta57)) [1, 2] rfl, gEv.warm hW hE⟩⟩ rfl rfl hl.1 rfl (lv_room (Nat.le_of_ble_eq_true rfl)) dX8_rotate_65 ⟨Nat.zero_le _, Nat.zero_le _⟩) hP hS (gSub rfl) rfl rfl rfl rfl rfl (fun H locs hP hS => ?_)
    cases hf
    exact W.iret hx hb hr (fun t ht hW => ⟨⟨rfl, by rw [ht]; exact hP⟩, hS.F ht⟩) hS.2.2 dX8_rotate_68
  · have hf := (if_pos c_1).symm.trans hf
    exact nomatch hf
set_option maxHeartbeats 4000000 in
set_option maxRecDepth 100000 in
theorem kX8_rotatex (l : Launch) (hlt : l.stackTraces = false) (D : va_G) (cI cJ cD : ClassId) (sa : Nat → Nat) (q : Nat → Nat) (hq : gInj q) (N : Nat) (Tn : Int32) (Ta : (Nat → Int32)) (p1 : Int32) (e0 : Nat) (Ta9 : (Nat → Int32)) (hf : fX8_rotate N Tn Ta p1 = some (.inl (e0, Ta9))) : vx_Met l yX8_rotate wsX8_rotate rX8_rotatex (gPx D cI cJ cD sa (gA q [0, 1, 2]) [.ref (q 0), .int p1] (w_0_1_2 q cI cJ cD Tn Ta)) (fun _ _ _ _ => False) (gX D (gEn e0) (w_0_1_2 q cI cJ cD Tn Ta9) (gA q [0, 1, 2])) 1 6 (gA q [0, 1, 2]) := by
  refine vx_ofW (cc := cX8_rotate) (maxL := 4) (ret := (some .int)) (by decide +kernel) rfl ?_
  intro p e s m args below meth c s₁ B hml htab hv
  obtain ⟨rfl, hP, hE, hXe⟩ := hv
  have hx := B.exec
  have hb := B.bytes
  have hr := B.returns
  have hts := atoms_spec (ws := wsX8_rotate) B.pre
  have hown : s.vm.findClass RX8 = some m.cls := findClass_of_methodNamed B.named
  have hlocks := B.notSynchronized
  have hS : va_S (gA q [0, 1, 2]) s.heap s.heap [] := va_S.rf
  have hl := lv_entry ([.ref (q 0), .int p1]) (n := 4) (Nat.le_of_ble_eq_true rfl)
  rw [lg_entry_eq]
  generalize (lg_sl ([.ref (q 0), .int p1]) ++ List.replicate (4 - (lg_sl ([.ref (q 0), .int p1])).length) Slot.unset).toArray = ls at hl ⊢
  have hl : lv_has ls 4 [(0, .ref (q 0)), (1, .int p1)] := hl
  have hk10 := hts (.fieldLink RX8 10 "LyndonText" "text" "LLyndonText$Letters;") (by decide +kernel)
  have huX8 : ∀ w ∈ u_ws RX8 TX8 6, w ∈ wsX8_rotate := by decide +kernel
  unfold fX8_rotate at hf
  refine lv_iload_n hx hb dX8_rotate_0 rfl (lv_at hl 1 rfl) ?_
  refine lv_iconst (v := (0 : Int32)) hx hb dX8_rotate_1 (by decide) ?_
  refine lv_bipush (v := (63 : Int32)) hx hb dX8_rotate_2 (by decide) ?_
  rcases bx_some hf with ⟨e4, hc, hf⟩ | ⟨⟨⟩, hc, hf⟩
  · try dsimp only at hf
    refine g_callX (ws' := (w_0_1_2 q cI cJ cD Tn Ta)) hq [0, 1, 2] [] [.inr 0, .inr 1, .inr 2] (vx_runS (As := [.int p1, .int (0 : Int32), .int (63 : Int32)]) (rest := []) ⟨hx, hb, hml, hown, hts⟩ (kX8_checkArgumentx l hlt D cI cJ cD sa q hq N p1 (0 : Int32) (63 : Int32) e4 hc) (va_cwS 3 hts gX8_rotate_X8_checkArgument rfl rfl rfl (by decide +kernel) ⟨(Nat.le_of_ble_eq_true rfl), (Nat.le_of_ble_eq_true rfl)⟩) ⟨gPx_blind, fun U hU hW => ⟨rfl, by rw [hU]; exact hP.sub (ws' := (w_0none q cI cJ cD)) [] rfl, gEv.warm hW hE, gXe.go hW hS (gMono rfl) hXe hU⟩⟩ rfl rfl hl.1 rfl (lv_room (Nat.le_of_ble_eq_true rfl)) dX8_rotate_4 ⟨(Nat.le_of_ble_eq_true rfl), (Nat.le_of_ble_eq_true rfl)⟩) hP hS (gSub rfl) rfl rfl rfl rfl (fun ce q9 H locs hP hS hce hcv hcl => ?_)
    cases hf
    exact vx_out (fun x9 hx9 => (htab x9 hx9).elim) hlocks hce hcv hcl (fun t ht hv => ⟨rfl, by rw [ht]; exact hP, hS.F ht⟩) hS.2.2 (Nat.le_of_ble_eq_true rfl) (Nat.le_of_ble_eq_true rfl)
  try dsimp only at hf
  refine g_call0 (ws' := (w_0_1_2 q cI cJ cD Tn Ta)) (st1 := []) hq [0, 1, 2] [] [.inr 0, .inr 1, .inr 2] (va_runS (As := [.int p1, .int (0 : Int32), .int (63 : Int32)]) (rest := []) ⟨hx, hb, hml, hown, hts⟩ (kX8_checkArgument l D cI cJ cD q hq N p1 (0 : Int32) (63 : Int32) hc) (va_cwS 3 hts gX8_rotate_X8_checkArgument rfl rfl rfl (by decide +kernel) ⟨(Nat.le_of_ble_eq_true rfl), (Nat.le_of_ble_eq_true rfl)⟩) ⟨gP_blind, fun U hU hW => ⟨rfl, by rw [hU]; exact hP.sub (ws' := (w_0none q cI cJ cD)) [] rfl, gEv.warm hW hE⟩⟩ rfl rfl hl.1 rfl (lv_room (Nat.le_of_ble_eq_true rfl)) dX8_rotate_4 ⟨Nat.zero_le _, Nat.zero_le _⟩) hP hS (gSub rfl) rfl rfl rfl rfl rfl (fun H locs hP hS => ?_)
  refine lv_aload_n hx hb dX8_rotate_7 rfl (lv_at hl 0 rfl) ?_
  refine va_get (D := D) (ci := 6) (v := .ref (q 1)) (C := RX8) (T := TX8) (N := 6) hx hb hts huX8 hown hE.1 hP 0 rfl rfl 0 (by decide) hk10 (fun _ h9 => h9) rfl dX8_rotate_8 ?_
  obtain ⟨r11, hc, hf⟩ := bn_some hf
  try dsimp only at hf
  refine g_call0 (ws' := (w_0_1_2 q cI cJ cD Tn Ta)) (st1 := [.int r11]) hq [0, 1, 2] [1] [.inr 0, .inl 0, .inr 2] (va_runV (As := []) (rest := []) ⟨hx, hb, hml, hown, hts⟩ (kX2_count l D cI cJ cD q hq N Tn r11 hc) (cwV 0 hts gX8_rotate_X2_count rfl rfl rfl (by decide +kernel) ⟨(Nat.le_of_ble_eq_true rfl), (Nat.le_of_ble_eq_true rfl)⟩) ⟨gP_blind, va_recv hE.1 hP (ci := 2) (q0 := 1) rfl rfl, fun U hU hW => ⟨rfl, by rw [hU]; exact hP.sub (ws' := (w_1 q cI cJ cD Tn)) [1] rfl, gEv.warm hW hE⟩⟩ rfl rfl hl.1 rfl (lv_room (Nat.le_of_ble_eq_true rfl)) dX8_rotate_11 ⟨Nat.zero_le _, Nat.zero_le _⟩) hP hS (gSub rfl) rfl rfl rfl rfl rfl (fun H locs hP hS => ?_)
  refine lv_istore_n (lv' := [(2, .int r11), (0, .ref (q 0)), (1, .int p1)]) hx hb dX8_rotate_14 rfl hl (by decide) rfl (fun ls hl => ?_)
  refine lv_iload_n hx hb dX8_rotate_15 rfl (lv_at hl 0 rfl) ?_
  refine lv_if_ne (tgt := 29) hx hb dX8_rotate_16 (by decide) (fun c_1 => ?_) (fun c_1 => ?_)
  · have hf := (if_neg c_1).symm.trans hf
    refine lv_iload_n hx hb dX8_rotate_29 rfl (lv_at hl 2 rfl) ?_
    refine lv_iload_n hx hb dX8_rotate_30 rfl (lv_at hl 0 rfl) ?_
    obtain ⟨g_2, hf⟩ := gd_some hf
    refine lv_irem hx hb dX8_rotate_31 (nz_ne g_2) ?_
    refine lv_istore_n (lv' := [(3, .int (p1 - p1 / r11 * r11)), (2, .int r11), (0, .ref (q 0)), (1, .int p1)]) hx hb dX8_rotate_32 rfl hl (by decide) rfl (fun ls hl => ?_)
    refine lv_aload_n hx hb dX8_rotate_33 rfl (lv_at hl 2 rfl) ?_
    refine va_get (D := D) (ci := 6) (v := .ref (q 1)) (C := RX8) (T := TX8) (N := 6) hx hb hts huX8 hown hE.1 hP 0 rfl rfl 0 (by decide) hk10 (fun _ h9 => h9) rfl dX8_rotate_34 ?_
    refine lv_iconst (v := (0 : Int32)) hx hb dX8_rotate_37 (by decide) ?_
    refine lv_iload_n hx hb dX8_rotate_38 rfl (lv_at hl 0 rfl) ?_
    obtain ⟨Ta39, hc, hf⟩ := bn_some hf
    try dsimp only at hf
    refine g_call0 (ws' := (w_0_1_2 q cI cJ cD Tn Ta39)) (st1 := []) hq [0, 1, 2] [1, 2] [.inr 0, .inl 0, .inl 1] (va_runV (As := [.int (0 : Int32), .int (p1 - p1 / r11 * r11)]) (rest := []) ⟨hx, hb, hml, hown, hts⟩ (kX2_turn l D cI cJ cD q hq N Tn Ta (0 : Int32) (p1 - p1 / r11 * r11) Ta39 hc) (cwV 2 hts gX8_rotate_X2_turn rfl rfl rfl (by decide +kernel) ⟨(Nat.le_of_ble_eq_true rfl), (Nat.le_of_ble_eq_true rfl)⟩) ⟨gP_blind, va_recv hE.1 hP (ci := 2) (q0 := 1) rfl rfl, fun U hU hW => ⟨rfl, by rw [hU]; exact hP.sub (ws' := (w_1_2 q cI cJ cD Tn Ta)) [1, 2] rfl, gEv.warm hW hE⟩⟩ rfl rfl hl.1 rfl (lv_room (Nat.le_of_ble_eq_true rfl)) dX8_rotate_39 ⟨Nat.zero_le _, Nat.zero_le _⟩) hP hS (gSub rfl) rfl rfl rfl rfl rfl (fun H locs hP hS => ?_)
    refine lv_aload_n hx hb dX8_rotate_42 rfl (lv_at hl 2 rfl) ?_
    refine va_get (D := D) (ci := 6) (v := .ref (q 1)) (C := RX8) (T := TX8) (N := 6) hx hb hts huX8 hown hE.1 hP 0 rfl rfl 0 (by decide) hk10 (fun _ h9 => h9) rfl dX8_rotate_43 ?_
    refine lv_iload_n hx hb dX8_rotate_46 rfl (lv_at hl 0 rfl) ?_
    refine lv_iload_n hx hb dX8_rotate_47 rfl (lv_at hl 1 rfl) ?_
    obtain ⟨Ta48, hc, hf⟩ := bn_some hf
    try dsimp only at hf
    refine g_call0 (ws' := (w_0_1_2 q cI cJ cD Tn Ta48)) (st1 := []) hq [0, 1, 2] [1, 2] [.inr 0, .inl 0, .inl 1] (va_runV (As := [.int (p1 - p1 / r11 * r11), .int r11]) (rest := []) ⟨hx, hb, hml, hown, hts⟩ (kX2_turn l D cI cJ cD q hq N Tn Ta39 (p1 - p1 / r11 * r11) r11 Ta48 hc) (cwV 2 hts gX8_rotate_X2_turn rfl rfl rfl (by decide +kernel) ⟨(Nat.le_of_ble_eq_true rfl), (Nat.le_of_ble_eq_true rfl)⟩) ⟨gP_blind, va_recv hE.1 hP (ci := 2) (q0 := 1) rfl rfl, fun U hU hW => ⟨rfl, by rw [hU]; exact hP.sub (ws' := (w_1_2 q cI cJ cD Tn Ta39)) [1, 2] rfl, gEv.warm hW hE⟩⟩ rfl rfl hl.1 rfl (lv_room (Nat.le_of_ble_eq_true rfl)) dX8_rotate_48 ⟨Nat.zero_le _, Nat.zero_le _⟩) hP hS (gSub rfl) rfl rfl rfl rfl rfl (fun H locs hP hS => ?_)
    refine lv_aload_n hx hb dX8_rotate_51 rfl (lv_at hl 2 rfl) ?_
    refine va_get (D := D) (ci := 6) (v := .ref (q 1)) (C := RX8) (T := TX8) (N := 6) hx hb hts huX8 hown hE.1 hP 0 rfl rfl 0 (by decide) hk10 (fun _ h9 => h9) rfl dX8_rotate_52 ?_
    refine lv_iconst (v := (0 : Int32)) hx hb dX8_rotate_55 (by decide) ?_
    refine lv_iload_n hx hb dX8_rotate_56 rfl (lv_at hl 1 rfl) ?_
    obtain ⟨Ta57, hc, hf⟩ := bn_some hf
    try dsimp only at hf
    refine g_call0 (ws' := (w_0_1_2 q cI cJ cD Tn Ta57)) (st1 := []) hq [0, 1, 2] [1, 2] [.inr 0, .inl 0, .inl 1] (va_runV (As := [.int (0 : Int32), .int r11]) (rest := []) ⟨hx, hb, hml, hown, hts⟩ (kX2_turn l D cI cJ cD q hq N Tn Ta48 (0 : Int32) r11 Ta57 hc) (cwV 2 hts gX8_rotate_X2_turn rfl rfl rfl (by decide +kernel) ⟨(Nat.le_of_ble_eq_true rfl), (Nat.le_of_ble_eq_true rfl)⟩) ⟨gP_blind, va_recv hE.1 hP (ci := 2) (q0 := 1) rfl rfl, fun U hU hW => ⟨rfl, by rw [hU]; exact hP.sub (ws' := (w_1_2 q cI cJ cD Tn Ta48)) [1, 2] rfl, gEv.warm hW hE⟩⟩ rfl rfl hl.1 rfl (lv_room (Nat.le_of_ble_eq_true rfl)) dX8_rotate_57 ⟨Nat.zero_le _, Nat.zero_le _⟩) hP hS (gSub rfl) rfl rfl rfl rfl rfl (fun H locs hP hS => ?_)
    refine lv_aload_n hx hb dX8_rotate_60 rfl (lv_at hl 2 rfl) ?_
    refine va_get (D := D) (ci := 6) (v := .ref (q 1)) (C := RX8) (T := TX8) (N := 6) hx hb hts huX8 hown hE.1 hP 0 rfl rfl 0 (by decide) hk10 (fun _ h9 => h9) rfl dX8_rotate_61 ?_
    refine lv_iconst (v := (0 : Int32)) hx hb dX8_rotate_64 (by decide) ?_
    obtain ⟨r65, hc, hf⟩ := bn_some hf
    try dsimp only at hf
    refine g_call0 (ws' := (w_0_1_2 q cI cJ cD Tn Ta57)) (st1 := [.int r65]) hq [0, 1, 2] [1, 2] [.inr 0, .inl 0, .inl 1] (va_runV (As := [.int (0 : Int32)]) (rest := []) ⟨hx, hb, hml, hown, hts⟩ (kX2_letter l D cI cJ cD q hq N Tn Ta57 (0 : Int32) r65 hc) (cwV 1 hts gX8_rotate_X2_letter rfl rfl rfl (by decide +kernel) ⟨(Nat.le_of_ble_eq_true rfl), (Nat.le_of_ble_eq_true rfl)⟩) ⟨gP_blind, va_recv hE.1 hP (ci := 2) (q0 := 1) rfl rfl, fun U hU hW => ⟨rfl, by rw [hU]; exact hP.sub (ws' := (w_1_2 q cI cJ cD Tn Ta57)) [1, 2] rfl, gEv.warm hW hE⟩⟩ rfl rfl hl.1 rfl (lv_room (Nat.le_of_ble_eq_true rfl)) dX8_rotate_65 ⟨Nat.zero_le _, Nat.zero_le _⟩) hP hS (gSub rfl) rfl rfl rfl rfl rfl (fun H locs hP hS => ?_)
    exact nomatch hf
  · have hf := (if_pos c_1).symm.trans hf
    cases hf
    exact vx_throwS (own := RX8) (cls := "java/lang/IllegalStateException") (text := "the text is empty") (names := ["java/lang/RuntimeException", "java/lang/Exception"]) (ik := 89) (is := 91) (ic := 93) (sa := sa 91) (A := (gA q [0, 1, 2])) hx hb hlt hown (by decide +kernel) (by decide +kernel) (hts (.classLink RX8 89 "java/lang/IllegalStateException") (by decide +kernel)) (hts (.initialized "java/lang/IllegalStateException") (by decide +kernel)) (hXe.1.1 (91, "the text is empty") (by decide +kernel)) (vx_hat (B := gB "java/lang/IllegalStateException") (fun w h => hts w (gw_X8_rotate_19 w h)) (gwB_X8_rotate_19) (gB_ok hXe.1 (cls := "java/lang/IllegalStateException") (by decide +kernel))) (gwg_X8_rotate_19) hXe.2.1 hXe.2.2 hS (hl.1.trans hml.symm) dX8_rotate_19 dX8_rotate_22 dX8_rotate_23 dX8_rotate_25 dX8_rotate_28 (fun x9 hx9 => (htab x9 hx9).elim) (Nat.le_of_ble_eq_true rfl) (Nat.le_of_ble_eq_true rfl) (Nat.le_of_ble_eq_true rfl) (Nat.le_of_ble_eq_true rfl) hlocks (fun t hv hz hk => ⟨rfl, hP.kept (fun k9 x9 hx9 => hk x9.1 ((hP k9 x9 hx9).lt)), ⟨Nat.le_trans hS.1 hz, fun a9 h1 hn => (hk a9 (Nat.lt_of_lt_of_le h1 hS.1)).trans (hS.2.1 a9 h1 hn)⟩⟩) hS.2.2 (Nat.le_of_ble_eq_true rfl) (Nat.le_of_ble_eq_true rfl)
set_option maxHeartbeats 4000000 in
set_option maxRecDepth 100000 in
theorem kX8_checkPart (l : Launch) (D : va_G) (cI cJ cD : ClassId) (q : Nat → Nat) (hq : gInj q) (N : Nat) (Tn : Int32) (p1 : Int32) (p2 : Int32) (hf : fX8_checkPart N Tn p1 p2 = some (.inr ())) : Met l yX8_checkPart wsX8_checkPart rX8_checkPart (gP D cI cJ cD [.ref (q 0), .int p1, .int p2] (w_0_1 q cI cJ cD Tn)) (gQ D none (w_0_1 q cI cJ cD Tn) (gA q [0, 1])) 0 0 (gA q [0, 1]) := by
  refine Met.ofW (cc := cX8_checkPart) (maxL := 3) (ret := none) (by decide +kernel) rfl ?_
  intro p e s m args below meth c s₁ B hml hv
  obtain ⟨rfl, hP, hE⟩ := hv
  have hx := B.exec
  have hb := B.bytes
  have hr := B.returns
  have hts := atoms_spec (ws := wsX8_checkPart) B.pre
  have hown : s.vm.findClass RX8 = some m.cls := findClass_of_methodNamed B.named
  have hlocks := B.notSynchronized
  have hS : va_S (gA q [0, 1]) s.heap s.heap [] := va_S.rf
  have hl := lv_entry ([.ref (q 0), .int p1, .int p2]) (n := 3) (Nat.le_of_ble_eq_true rfl)
  rw [lg_entry_eq]
  generalize (lg_sl ([.ref (q 0), .int p1, .int p2]) ++ List.replicate (3 - (lg_sl ([.ref (q 0), .int p1, .int p2])).length) Slot.unset).toArray = ls at hl ⊢
  have hl : lv_has ls 3 [(0, .ref (q 0)), (1, .int p1), (2, .int p2)] := hl
  have hk10 := hts (.fieldLink RX8 10 "LyndonText" "text" "LLyndonText$Letters;") (by decide +kernel)
  have huX8 : ∀ w ∈ u_ws RX8 TX8 6, w ∈ wsX8_checkPart := by decide +kernel
  have J20 : ∀ (_ : Unit), fX8_checkPart_J20 N Tn = some (.inr ()) → ∀ (H : Heap) (locs : List Loc), va_P D vwCl (w_0_1 q cI cJ cD Tn) H → va_S (gA q [0, 1]) s.heap H locs → ∀ ls : Array Slot, lv_has ls 3 [] → W p l e (headSpec wsX8_checkPart rX8_checkPart).room s m ([.ref (q 0), .int p1, .int p2] : List Value).toArray below meth c H locs 0 0 (MQ below (gQ D none (w_0_1 q cI cJ cD Tn) (gA q [0, 1])) ([.ref (q 0), .int p1, .int p2] : List Value).toArray s 0 0 (gA q [0, 1])) (F0 m 20 ls []) := by
    intro _ hf H locs hP hS ls hl
    unfold fX8_checkPart_J20 at hf
    exact nomatch hf
  unfold fX8_checkPart at hf
  refine lv_iload_n hx hb dX8_checkPart_0 rfl (lv_at hl 1 rfl) ?_
  refine lv_if_lt (tgt := 20) hx hb dX8_checkPart_1 (by decide) (fun c_1 => ?_) (fun c_1 => ?_)
  · have hf := (if_pos c_1).symm.trans hf
    exact J20 () hf _ _ hP hS _ (lv_sub hl [] rfl)
  · have hf := (if_neg c_1).symm.trans hf
    refine lv_iload_n hx hb dX8_checkPart_4 rfl (lv_at hl 1 rfl) ?_
    refine lv_iload_n hx hb dX8_checkPart_5 rfl (lv_at hl 2 rfl) ?_
    refine lv_icmp_ge (tgt := 20) hx hb dX8_checkPart_6 (by decide) (fun c_2 => ?_) (fun c_2 => ?_)
    · have hf := (if_pos c_2).symm.trans hf
      exact J20 () hf _ _ hP hS _ (lv_sub hl [] rfl)
    · have hf := (if_neg c_2).symm.trans hf
      refine lv_iload_n hx hb dX8_checkPart_9 rfl (lv_at hl 2 rfl) ?_
      refine lv_aload_n hx hb dX8_checkPart_10 rfl (lv_at hl 0 rfl) ?_
      refine va_get (D := D) (ci := 6) (v := .ref (q 1)) (C := RX8) (T := TX8) (N := 6) hx hb hts huX8 hown hE.1 hP 0 rfl rfl 0 (by decide) hk10 (fun _ h9 => h9) rfl dX8_checkPart_11 ?_
      obtain ⟨r14, hc, hf⟩ := bn_some hf
      try dsimp only at hf
      refine g_call0 (ws' := (w_0_1 q cI cJ cD Tn)) (st1 := [.int r14, .int p2]) hq [0, 1] [1] [.inr 0, .inl 0] (va_runV (As := []) (rest := [.int p2]) ⟨hx, hb, hml, hown, hts⟩ (kX2_count l D cI cJ cD q hq N Tn r14 hc) (cwV 0 hts gX8_checkPart_X2_count rfl rfl rfl (by decide +kernel) ⟨(Nat.le_of_ble_eq_true rfl), (Nat.le_of_ble_eq_true rfl)⟩) ⟨gP_blind, va_recv hE.1 hP (ci := 2) (q0 := 1) rfl rfl, fun U hU hW => ⟨rfl, by rw [hU]; exact hP.sub (ws' := (w_1 q cI cJ cD Tn)) [1] rfl, gEv.warm hW hE⟩⟩ rfl rfl hl.1 rfl (lv_room (Nat.le_of_ble_eq_true rfl)) dX8_checkPart_14 ⟨Nat.zero_le _, Nat.zero_le _⟩) hP hS (gSub rfl) rfl rfl rfl rfl rfl (fun H locs hP hS => ?_)
      refine lv_icmp_le (tgt := 30) hx hb dX8_checkPart_17 (by decide) (fun c_3 => ?_) (fun c_3 => ?_)
      · have hf := (if_pos c_3).symm.trans hf
        cases hf
        exact W.vret hx hb hr (fun t ht hW => ⟨⟨rfl, by rw [ht]; exact hP⟩, hS.F ht⟩) hS.2.2 dX8_checkPart_30
      · have hf := (if_neg c_3).symm.trans hf
        exact J20 () hf _ _ hP hS _ (lv_sub hl [] rfl)
set_option maxHeartbeats 4000000 in
set_option maxRecDepth 100000 in
theorem kX8_checkPartx (l : Launch) (hlt : l.stackTraces = false) (D : va_G) (cI cJ cD : ClassId) (sa : Nat → Nat) (q : Nat → Nat) (hq : gInj q) (N : Nat) (Tn : Int32) (p1 : Int32) (p2 : Int32) (e0 : Nat) (hf : fX8_checkPart N Tn p1 p2 = some (.inl e0)) : vx_Met l yX8_checkPart wsX8_checkPart rX8_checkPartx (gPx D cI cJ cD sa (gA q [0, 1]) [.ref (q 0), .int p1, .int p2] (w_0_1 q cI cJ cD Tn)) (fun _ _ _ _ => False) (gX D (gEn e0) (w_0_1 q cI cJ cD Tn) (gA q [0, 1])) 1 6 (gA q [0, 1]) := by
  refine vx_ofW (cc := cX8_checkPart) (maxL := 3) (ret := none) (by decide +kernel) rfl ?_
  intro p e s m args below meth c s₁ B hml htab hv
  obtain ⟨rfl, hP, hE, hXe⟩ := hv
  have hx := B.exec
  have hb := B.bytes
  have hr := B.returns
  have hts := atoms_spec (ws := wsX8_checkPart) B.pre
  have hown : s.vm.findClass RX8 = some m.cls := findClass_of_methodNamed B.named
  have hlocks := B.notSynchronized
  have hS : va_S (gA q [0, 1]) s.heap s.heap [] := va_S.rf
  have hl := lv_entry ([.ref (q 0), .int p1, .int p2]) (n := 3) (Nat.le_of_ble_eq_true rfl)
  rw [lg_entry_eq]
  generalize (lg_sl ([.ref (q 0), .int p1, .int p2]) ++ List.replicate (3 - (lg_sl ([.ref (q 0), .int p1, .int p2])).length) Slot.unset).toArray = ls at hl ⊢
  have hl : lv_has ls 3 [(0, .ref (q 0)), (1, .int p1), (2, .int p2)] := hl
  have hk10 := hts (.fieldLink RX8 10 "LyndonText" "text" "LLyndonText$Letters;") (by decide +kernel)
  have huX8 : ∀ w ∈ u_ws RX8 TX8 6, w ∈ wsX8_checkPart := by decide +kernel
  have J20 : ∀ (_ : Unit), fX8_checkPart_J20 N Tn = some (.inl e0) → ∀ (H : Heap) (locs : List Loc), va_P D vwCl (w_0_1 q cI cJ cD Tn) H → va_S (gA q [0, 1]) s.heap H locs → ∀ ls : Array Slot, lv_has ls 3 [] → W p l e (headSpec wsX8_checkPart rX8_checkPartx).room s m ([.ref (q 0), .int p1, .int p2] : List Value).toArray below meth c H locs 0 0 (vx_MQ below (fun _ _ _ _ => False) (gX D (gEn e0) (w_0_1 q cI cJ cD Tn) (gA q [0, 1])) ([.ref (q 0), .int p1, .int p2] : List Value).toArray s 1 6 (gA q [0, 1])) (F0 m 20 ls []) := by
    intro _ hf H locs hP hS ls hl
    unfold fX8_checkPart_J20 at hf
    cases hf
    exact vx_throwS (own := RX8) (cls := "java/lang/IndexOutOfBoundsException") (text := "there is no such part") (names := ["java/lang/RuntimeException", "java/lang/Exception"]) (ik := 232) (is := 239) (ic := 236) (sa := sa 239) (A := (gA q [0, 1])) hx hb hlt hown (by decide +kernel) (by decide +kernel) (hts (.classLink RX8 232 "java/lang/IndexOutOfBoundsException") (by decide +kernel)) (hts (.initialized "java/lang/IndexOutOfBoundsException") (by decide +kernel)) (hXe.1.1 (239, "there is no such part") (by decide +kernel)) (vx_hat (B := gB "java/lang/IndexOutOfBoundsException") (fun w h => hts w (gw_X8_checkPart_20 w h)) (gwB_X8_checkPart_20) (gB_ok hXe.1 (cls := "java/lang/IndexOutOfBoundsException") (by decide +kernel))) (gwg_X8_checkPart_20) hXe.2.1 hXe.2.2 hS (hl.1.trans hml.symm) dX8_checkPart_20 dX8_checkPart_23 dX8_checkPart_24 dX8_checkPart_26 dX8_checkPart_29 (fun x9 hx9 => (htab x9 hx9).elim) (Nat.le_of_ble_eq_true rfl) (Nat.le_of_ble_eq_true rfl) (Nat.le_of_ble_eq_true rfl) (Nat.le_of_ble_eq_true rfl) hlocks (fun t hv hz hk => ⟨rfl, hP.kept (fun k9 x9 hx9 => hk x9.1 ((hP k9 x9 hx9).lt)), ⟨Nat.le_trans hS.1 hz, fun a9 h1 hn => (hk a9 (Nat.lt_of_lt_of_le h1 hS.1)).trans (hS.2.1 a9 h1 hn)⟩⟩) hS.2.2 (Nat.le_of_ble_eq_true rfl) (Nat.le_of_ble_eq_true rfl)
  unfold fX8_checkPart at hf
  refine lv_iload_n hx hb dX8_checkPart_0 rfl (lv_at hl 1 rfl) ?_
  refine lv_if_lt (tgt := 20) hx hb dX8_checkPart_1 (by decide) (fun c_1 => ?_) (fun c_1 => ?_)
  · have hf := (if_pos c_1).symm.trans hf
    exact J20 () hf _ _ hP hS _ (lv_sub hl [] rfl)
  · have hf := (if_neg c_1).symm.trans hf
    refine lv_iload_n hx hb dX8_checkPart_4 rfl (lv_at hl 1 rfl) ?_
    refine lv_iload_n hx hb dX8_checkPart_5 rfl (lv_at hl 2 rfl) ?_
    refine lv_icmp_ge (tgt := 20) hx hb dX8_checkPart_6 (by decide) (fun c_2 => ?_) (fun c_2 => ?_)
    · have hf := (if_pos c_2).symm.trans hf
      exact J20 () hf _ _ hP hS _ (lv_sub hl [] rfl)
    · have hf := (if_neg c_2).symm.trans hf
      refine lv_iload_n hx hb dX8_checkPart_9 rfl (lv_at hl 2 rfl) ?_
      refine lv_aload_n hx hb dX8_checkPart_10 rfl (lv_at hl 0 rfl) ?_
      refine va_get (D := D) (ci := 6) (v := .ref (q 1)) (C := RX8) (T := TX8) (N := 6) hx hb hts huX8 hown hE.1 hP 0 rfl rfl 0 (by decide) hk10 (fun _ h9 => h9) rfl dX8_checkPart_11 ?_
      obtain ⟨r14, hc, hf⟩ := bn_some hf
      try dsimp only at hf
      refine g_call0 (ws' := (w_0_1 q cI cJ cD Tn)) (st1 := [.int r14, .int p2]) hq [0, 1] [1] [.inr 0, .inl 0] (va_runV (As := []) (rest := [.int p2]) ⟨hx, hb, hml, hown, hts⟩ (kX2_count l D cI cJ cD q hq N Tn r14 hc) (cwV 0 hts gX8_checkPart_X2_count rfl rfl rfl (by decide +kernel) ⟨(Nat.le_of_ble_eq_true rfl), (Nat.le_of_ble_eq_true rfl)⟩) ⟨gP_blind, va_recv hE.1 hP (ci := 2) (q0 := 1) rfl rfl, fun U hU hW => ⟨rfl, by rw [hU]; exact hP.sub (ws' := (w_1 q cI cJ cD Tn)) [1] rfl, gEv.warm hW hE⟩⟩ rfl rfl hl.1 rfl (lv_room (Nat.le_of_ble_eq_true rfl)) dX8_checkPart_14 ⟨Nat.zero_le _, Nat.zero_le _⟩) hP hS (gSub rfl) rfl rfl rfl rfl rfl (fun H locs hP hS => ?_)
      refine lv_icmp_le (tgt := 30) hx hb dX8_checkPart_17 (by decide) (fun c_3 => ?_) (fun c_3 => ?_)
      · have hf := (if_pos c_3).symm.trans hf
        exact nomatch hf
      · have hf := (if_neg c_3).symm.trans hf
        exact J20 () hf _ _ hP hS _ (lv_sub hl [] rfl)
set_option maxHeartbeats 4000000 in
set_option maxRecDepth 100000 in
theorem kX8_appendPart (l : Launch) (D : va_G) (cI cJ cD : ClassId) (q : Nat → Nat) (hq : gInj q) (N : Nat) (Tn : Int32) (Ta : (Nat → Int32)) (p1 : Int32) (p2 : Int32) (r0 : Int32) (Tn9 : Int32) (Ta9 : (Nat → Int32)) (hf : fX8_appendPart N Tn Ta p1 p2 = some (.inr (r0, Tn9, Ta9))) : Met l yX8_appendPart wsX8_appendPart rX8_appendPart (gP D cI cJ cD [.ref (q 0), .int p1, .int p2] (w_0_1_2 q cI cJ cD Tn Ta)) (gQ D (some (.int r0)) (w_0_1_2 q cI cJ cD Tn9 Ta9) (gA q [0, 1, 2])) 0 0 (gA q [0, 1, 2]) := by
  refine Met.ofW (cc := cX8_appendPart) (maxL := 4) (ret := (some .int)) (by decide +kernel) rfl ?_
  intro p e s m args below meth c s₁ B hml hv
  obtain ⟨rfl, hP, hE⟩ := hv
  have hx := B.exec
  have hb := B.bytes
  have hr := B.returns
  have hts := atoms_spec (ws := wsX8_appendPart) B.pre
  have hown : s.vm.findClass RX8 = some m.cls := findClass_of_methodNamed B.named
  have hlocks := B.notSynchronized
  have hS : va_S (gA q [0, 1, 2]) s.heap s.heap [] := va_S.rf
  have hl := lv_entry ([.ref (q 0), .int p1, .int p2]) (n := 4) (Nat.le_of_ble_eq_true rfl)
  rw [lg_entry_eq]
  generalize (lg_sl ([.ref (q 0), .int p1, .int p2]) ++ List.replicate (4 - (lg_sl ([.ref (q 0), .int p1, .int p2])).length) Slot.unset).toArray = ls at hl ⊢
  have hl : lv_has ls 4 [(0, .ref (q 0)), (1, .int p1), (2, .int p2)] := hl
  have hk10 := hts (.fieldLink RX8 10 "LyndonText" "text" "LLyndonText$Letters;") (by decide +kernel)
  have huX8 : ∀ w ∈ u_ws RX8 TX8 6, w ∈ wsX8_appendPart := by decide +kernel
  have J41 : ∀ (Tn : Int32) (Ta : (Nat → Int32)), fX8_appendPart_J41 N Tn Ta = some (.inr (r0, Tn9, Ta9)) → ∀ (H : Heap) (locs : List Loc), va_P D vwCl (w_0_1_2 q cI cJ cD Tn Ta) H → va_S (gA q [0, 1, 2]) s.heap H locs → ∀ ls : Array Slot, lv_has ls 4 [(0, .ref (q 0))] → W p l e (headSpec wsX8_appendPart rX8_appendPart).room s m ([.ref (q 0), .int p1, .int p2] : List Value).toArray below meth c H locs 0 0 (MQ below (gQ D (some (.int r0)) (w_0_1_2 q cI cJ cD Tn9 Ta9) (gA q [0, 1, 2])) ([.ref (q 0), .int p1, .int p2] : List Value).toArray s 0 0 (gA q [0, 1, 2])) (F0 m 41 ls []) := by
    intro Tn Ta hf H locs hP hS ls hl
    unfold fX8_appendPart_J41 at hf
    refine lv_aload_n hx hb dX8_appendPart_41 rfl (lv_at hl 0 rfl) ?_
    refine va_get (D := D) (ci := 6) (v := .ref (q 1)) (C := RX8) (T := TX8) (N := 6) hx hb hts huX8 hown hE.1 hP 0 rfl rfl 0 (by decide) hk10 (fun _ h9 => h9) rfl dX8_appendPart_42 ?_
    obtain ⟨r45, hc, hf⟩ := bn_some hf
    try dsimp only at hf
    refine g_call0 (ws' := (w_0_1_2 q cI cJ cD Tn Ta)) (st1 := [.int r45]) hq [0, 1, 2] [1] [.inr 0, .inl 0, .inr 2] (va_runV (As := []) (rest := []) ⟨hx, hb, hml, hown, hts⟩ (kX2_count l D cI cJ cD q hq N Tn r45 hc) (cwV 0 hts gX8_appendPart_X2_count rfl rfl rfl (by decide +kernel) ⟨(Nat.le_of_ble_eq_true rfl), (Nat.le_of_ble_eq_true rfl)⟩) ⟨gP_blind, va_recv hE.1 hP (ci := 2) (q0 := 1) rfl rfl, fun U hU hW => ⟨rfl, by rw [hU]; exact hP.sub (ws' := (w_1 q cI cJ cD Tn)) [1] rfl, gEv.warm hW hE⟩⟩ rfl rfl hl.1 rfl (lv_room (Nat.le_of_ble_eq_true rfl)) dX8_appendPart_45 ⟨Nat.zero_le _, Nat.zero_le _⟩) hP hS (gSub rfl) rfl rfl rfl rfl rfl (fun H locs hP hS => ?_)
    cases hf
    exact W.iret hx hb hr (fun t ht hW => ⟨⟨rfl, by rw [ht]; exact hP⟩, hS.F ht⟩) hS.2.2 dX8_appendPart_48
  have K15 : ∀ (n15 : Nat) (Tn : Int32) (Ta : (Nat → Int32)) (x2 : Int32) (x3 : Int32), fX8_appendPart_H15 N n15 Tn Ta x2 x3 = some (.inr (r0, Tn9, Ta9)) → ∀ (H : Heap) (locs : List Loc), va_P D vwCl (w_0_1_2 q cI cJ cD Tn Ta) H → va_S (gA q [0, 1, 2]) s.heap H locs → ∀ ls : Array Slot, lv_has ls 4 [(0, .ref (q 0)), (2, .int x2), (3, .int x3)] → W p l e (headSpec wsX8_appendPart rX8_appendPart).room s m ([.ref (q 0), .int p1, .int p2] : List Value).toArray below meth c H locs 0 0 (MQ below (gQ D (some (.int r0)) (w_0_1_2 q cI cJ cD Tn9 Ta9) (gA q [0, 1, 2])) ([.ref (q 0), .int p1, .int p2] : List Value).toArray s 0 0 (gA q [0, 1, 2])) (F0 m 15 ls []) := by
    intro n15
    induction n15 with
    | zero =>
      intro Tn Ta x2 x3 hf
      exact nomatch (show (none : Option ((Nat × Int32 × (Nat → Int32)) ⊕ (Int32 × Int32 × (Nat → Int32)))) = some (.inr (r0, Tn9, Ta9)) from hf)
    | succ n15 ih15 =>
      intro Tn Ta x2 x3 hf H locs hP hS ls hl
      have hf : fX8_appendPart_B15 N (fX8_appendPart_H15 N n15) Tn Ta x2 x3 = some (.inr (r0, Tn9, Ta9)) := hf
      unfold fX8_appendPart_B15 at hf
      refine lv_iload_n hx hb dX8_appendPart_15 rfl (lv_at hl 2 rfl) ?_
      refine lv_iload_n hx hb dX8_appendPart_16 rfl (lv_at hl 1 rfl) ?_
      refine lv_icmp_ge (tgt := 41) hx hb dX8_appendPart_17 (by decide) (fun c_1 => ?_) (fun c_1 => ?_)
      · have hf := (if_pos c_1).symm.trans hf
        exact J41 Tn Ta hf _ _ hP hS _ (lv_sub hl [0] rfl)
      · have hf := (if_neg c_1).symm.trans hf
        refine lv_aload_n hx hb dX8_appendPart_20 rfl (lv_at hl 0 rfl) ?_
        refine va_get (D := D) (ci := 6) (v := .ref (q 1)) (C := RX8) (T := TX8) (N := 6) hx hb hts huX8 hown hE.1 hP 0 rfl rfl 0 (by decide) hk10 (fun _ h9 => h9) rfl dX8_appendPart_21 ?_
        refine lv_aload_n hx hb dX8_appendPart_24 rfl (lv_at hl 0 rfl) ?_
        refine va_get (D := D) (ci := 6) (v := .ref (q 1)) (C := RX8) (T := TX8) (N := 6) hx hb hts huX8 hown hE.1 hP 0 rfl rfl 0 (by decide) hk10 (fun _ h9 => h9) rfl dX8_appendPart_25 ?_
        refine lv_iload_n hx hb dX8_appendPart_28 rfl (lv_at hl 2 rfl) ?_
        obtain ⟨r29, hc, hf⟩ := bn_some hf
        try dsimp only at hf
        refine g_call0 (ws' := (w_0_1_2 q cI cJ cD Tn Ta)) (st1 := [.int r29, .ref (q 1)]) hq [0, 1, 2] [1, 2] [.inr 0, .inl 0, .inl 1] (va_runV (As := [.int x3]) (rest := [.ref (q 1)]) ⟨hx, hb, hml, hown, hts⟩ (kX2_letter l D cI cJ cD q hq N Tn Ta x3 r29 hc) (cwV 1 hts gX8_appendPart_X2_letter rfl rfl rfl (by decide +kernel) ⟨(Nat.le_of_ble_eq_true rfl), (Nat.le_of_ble_eq_true rfl)⟩) ⟨gP_blind, va_recv hE.1 hP (ci := 2) (q0 := 1) rfl rfl, fun U hU hW => ⟨rfl, by rw [hU]; exact hP.sub (ws' := (w_1_2 q cI cJ cD Tn Ta)) [1, 2] rfl, gEv.warm hW hE⟩⟩ rfl rfl hl.1 rfl (lv_room (Nat.le_of_ble_eq_true rfl)) dX8_appendPart_29 ⟨Nat.zero_le _, Nat.zero_le _⟩) hP hS (gSub rfl) rfl rfl rfl rfl rfl (fun H locs hP hS => ?_)
        obtain ⟨⟨Tn32, Ta32⟩, hc, hf⟩ := bn_some hf
        try dsimp only at hf
        refine g_call0 (ws' := (w_0_1_2 q cI cJ cD Tn32 Ta32)) (st1 := []) hq [0, 1, 2] [1, 2] [.inr 0, .inl 0, .inl 1] (va_runV (As := [.int r29]) (rest := []) ⟨hx, hb, hml, hown, hts⟩ (kX2_push l D cI cJ cD q hq N Tn Ta r29 Tn32 Ta32 hc) (cwV 1 hts gX8_appendPart_X2_push rfl rfl rfl (by decide +kernel) ⟨(Nat.le_of_ble_eq_true rfl), (Nat.le_of_ble_eq_true rfl)⟩) ⟨gP_blind, va_recv hE.1 hP (ci := 2) (q0 := 1) rfl rfl, fun U hU hW => ⟨rfl, by rw [hU]; exact hP.sub (ws' := (w_1_2 q cI cJ cD Tn Ta)) [1, 2] rfl, gEv.warm hW hE⟩⟩ rfl rfl hl.1 rfl (lv_room (Nat.le_of_ble_eq_true rfl)) dX8_appendPart_32 ⟨Nat.zero_le _, Nat.zero_le _⟩) hP hS (gSub rfl) rfl rfl rfl rfl rfl (fun H locs hP hS => ?_)
        refine lv_iinc (v := (x3 + 1)) (lv' := [(3, .int (x3 + 1)), (0, .ref (q 0)), (2, .int x2)]) hx hb dX8_appendPart_35 hl (k := 2) rfl rfl (by decide) rfl (fun ls hl => ?_)
        refine lv_goto (tgt := 15) hx hb dX8_appendPart_38 (by decide) ?_
        exact ih15 Tn32 Ta32 x2 (x3 + 1) hf _ _ hP hS _ (lv_sub hl [1, 2, 0] rfl)
  unfold fX8_appendPart at hf
  refine lv_aload_n hx hb dX8_appendPart_0 rfl (lv_at hl 0 rfl) ?_
  refine lv_iload_n hx hb dX8_appendPart_1 rfl (lv_at hl 1 rfl) ?_
  refine lv_iload_n hx hb dX8_appendPart_2 rfl (lv_at hl 2 rfl) ?_
  rcases bx_some hf with ⟨e3, hc, hf⟩ | ⟨⟨⟩, hc, hf⟩
  · exact nomatch hf
  try dsimp only at hf
  refine g_call0 (ws' := (w_0_1_2 q cI cJ cD Tn Ta)) (st1 := []) hq [0, 1, 2] [0, 1] [.inl 0, .inl 1, .inr 2] (va_runV (As := [.int p1, .int p2]) (rest := []) ⟨hx, hb, hml, hown, hts⟩ (kX8_checkPart l D cI cJ cD q hq N Tn p1 p2 hc) (cwV 2 hts gX8_appendPart_X8_checkPart rfl rfl rfl (by decide +kernel) ⟨(Nat.le_of_ble_eq_true rfl), (Nat.le_of_ble_eq_true rfl)⟩) ⟨gP_blind, va_recv hE.1 hP (ci := 6) (q0 := 0) rfl rfl, fun U hU hW => ⟨rfl, by rw [hU]; exact hP.sub (ws' := (w_0_1 q cI cJ cD Tn)) [0, 1] rfl, gEv.warm hW hE⟩⟩ rfl rfl hl.1 rfl (lv_room (Nat.le_of_ble_eq_true rfl)) dX8_appendPart_3 ⟨Nat.zero_le _, Nat.zero_le _⟩) hP hS (gSub rfl) rfl rfl rfl rfl rfl (fun H locs hP hS => ?_)
  refine lv_aload_n hx hb dX8_appendPart_6 rfl (lv_at hl 0 rfl) ?_
  refine lv_iload_n hx hb dX8_appendPart_7 rfl (lv_at hl 2 rfl) ?_
  refine lv_iload_n hx hb dX8_appendPart_8 rfl (lv_at hl 1 rfl) ?_
  refine lv_isub hx hb dX8_appendPart_9 ?_
  rcases bx_some hf with ⟨e10, hc, hf⟩ | ⟨⟨⟩, hc, hf⟩
  · exact nomatch hf
  try dsimp only at hf
  refine g_call0 (ws' := (w_0_1_2 q cI cJ cD Tn Ta)) (st1 := []) hq [0, 1, 2] [0, 1] [.inl 0, .inl 1, .inr 2] (va_runV (As := [.int (p2 - p1)]) (rest := []) ⟨hx, hb, hml, hown, hts⟩ (kX8_checkRoom l D cI cJ cD q hq N Tn (p2 - p1) hc) (cwV 1 hts gX8_appendPart_X8_checkRoom rfl rfl rfl (by decide +kernel) ⟨(Nat.le_of_ble_eq_true rfl), (Nat.le_of_ble_eq_true rfl)⟩) ⟨gP_blind, va_recv hE.1 hP (ci := 6) (q0 := 0) rfl rfl, fun U hU hW => ⟨rfl, by rw [hU]; exact hP.sub (ws' := (w_0_1 q cI cJ cD Tn)) [0, 1] rfl, gEv.warm hW hE⟩⟩ rfl rfl hl.1 rfl (lv_room (Nat.le_of_ble_eq_true rfl)) dX8_appendPart_10 ⟨Nat.zero_le _, Nat.zero_le _⟩) hP hS (gSub rfl) rfl rfl rfl rfl rfl (fun H locs hP hS => ?_)
  refine lv_iload_n hx hb dX8_appendPart_13 rfl (lv_at hl 1 rfl) ?_
  refine lv_istore_n (lv' := [(3, .int p1), (0, .ref (q 0)), (1, .int p1), (2, .int p2)]) hx hb dX8_appendPart_14 rfl hl (by decide) rfl (fun ls hl => ?_)
  exact K15 N Tn Ta p2 p1 hf _ _ hP hS _ (lv_sub hl [1, 3, 0] rfl)
set_option maxHeartbeats 4000000 in
set_option maxRecDepth 100000 in
theorem kX8_appendPartx (l : Launch) (hlt : l.stackTraces = false) (D : va_G) (cI cJ cD : ClassId) (sa : Nat → Nat) (q : Nat → Nat) (hq : gInj q) (N : Nat) (Tn : Int32) (Ta : (Nat → Int32)) (p1 : Int32) (p2 : Int32) (e0 : Nat) (Tn9 : Int32) (Ta9 : (Nat → Int32)) (hf : fX8_appendPart N Tn Ta p1 p2 = some (.inl (e0, Tn9, Ta9))) : vx_Met l yX8_appendPart wsX8_appendPart rX8_appendPartx (gPx D cI cJ cD sa (gA q [0, 1, 2]) [.ref (q 0), .int p1, .int p2] (w_0_1_2 q cI cJ cD Tn Ta)) (fun _ _ _ _ => False) (gX D (gEn e0) (w_0_1_2 q cI cJ cD Tn9 Ta9) (gA q [0, 1, 2])) 1 6 (gA q [0, 1, 2]) := by
  refine vx_ofW (cc := cX8_appendPart) (maxL := 4) (ret := (some .int)) (by decide +kernel) rfl ?_
  intro p e s m args below meth c s₁ B hml htab hv
  obtain ⟨rfl, hP, hE, hXe⟩ := hv
  have hx := B.exec
  have hb := B.bytes
  have hr := B.returns
  have hts := atoms_spec (ws := wsX8_appendPart) B.pre
  have hown : s.vm.findClass RX8 = some m.cls := findClass_of_methodNamed B.named
  have hlocks := B.notSynchronized
  have hS : va_S (gA q [0, 1, 2]) s.heap s.heap [] := va_S.rf
  have hl := lv_entry ([.ref (q 0), .int p1, .int p2]) (n := 4) (Nat.le_of_ble_eq_true rfl)
  rw [lg_entry_eq]
  generalize (lg_sl ([.ref (q 0), .int p1, .int p2]) ++ List.replicate (4 - (lg_sl ([.ref (q 0), .int p1, .int p2])).length) Slot.unset).toArray = ls at hl ⊢
  have hl : lv_has ls 4 [(0, .ref (q 0)), (1, .int p1), (2, .int p2)] := hl
  have hk10 := hts (.fieldLink RX8 10 "LyndonText" "text" "LLyndonText$Letters;") (by decide +kernel)
  have huX8 : ∀ w ∈ u_ws RX8 TX8 6, w ∈ wsX8_appendPart := by decide +kernel
  have J41 : ∀ (Tn : Int32) (Ta : (Nat → Int32)), fX8_appendPart_J41 N Tn Ta = some (.inl (e0, Tn9, Ta9)) → ∀ (H : Heap) (locs : List Loc), va_P D vwCl (w_0_1_2 q cI cJ cD Tn Ta) H → va_S (gA q [0, 1, 2]) s.heap H locs → ∀ ls : Array Slot, lv_has ls 4 [(0, .ref (q 0))] → W p l e (headSpec wsX8_appendPart rX8_appendPartx).room s m ([.ref (q 0), .int p1, .int p2] : List Value).toArray below meth c H locs 0 0 (vx_MQ below (fun _ _ _ _ => False) (gX D (gEn e0) (w_0_1_2 q cI cJ cD Tn9 Ta9) (gA q [0, 1, 2])) ([.ref (q 0), .int p1, .int p2] : List Value).toArray s 1 6 (gA q [0, 1, 2])) (F0 m 41 ls []) := by
    intro Tn Ta hf H locs hP hS ls hl
    unfold fX8_appendPart_J41 at hf
    refine lv_aload_n hx hb dX8_appendPart_41 rfl (lv_at hl 0 rfl) ?_
    refine va_get (D := D) (ci := 6) (v := .ref (q 1)) (C := RX8) (T := TX8) (N := 6) hx hb hts huX8 hown hE.1 hP 0 rfl rfl 0 (by decide) hk10 (fun _ h9 => h9) rfl dX8_appendPart_42 ?_
    obtain ⟨r45, hc, hf⟩ := bn_some hf
    try dsimp only at hf
    refine g_call0 (ws' := (w_0_1_2 q cI cJ cD Tn Ta)) (st1 := [.int r45]) hq [0, 1, 2] [1] [.inr 0, .inl 0, .inr 2] (va_runV (As := []) (rest := []) ⟨hx, hb, hml, hown, hts⟩ (kX2_count l D cI cJ cD q hq N Tn r45 hc) (cwV 0 hts gX8_appendPart_X2_count rfl rfl rfl (by decide +kernel) ⟨(Nat.le_of_ble_eq_true rfl), (Nat.le_of_ble_eq_true rfl)⟩) ⟨gP_blind, va_recv hE.1 hP (ci := 2) (q0 := 1) rfl rfl, fun U hU hW => ⟨rfl, by rw [hU]; exact hP.sub (ws' := (w_1 q cI cJ cD Tn)) [1] rfl, gEv.warm hW hE⟩⟩ rfl rfl hl.1 rfl (lv_room (Nat.le_of_ble_eq_true rfl)) dX8_appendPart_45 ⟨Nat.zero_le _, Nat.zero_le _⟩) hP hS (gSub rfl) rfl rfl rfl rfl rfl (fun H locs hP hS => ?_)
    exact nomatch hf
  have K15 : ∀ (n15 : Nat) (Tn : Int32) (Ta : (Nat → Int32)) (x2 : Int32) (x3 : Int32), fX8_appendPart_H15 N n15 Tn Ta x2 x3 = some (.inl (e0, Tn9, Ta9)) → ∀ (H : Heap) (locs : List Loc), va_P D vwCl (w_0_1_2 q cI cJ cD Tn Ta) H → va_S (gA q [0, 1, 2]) s.heap H locs → ∀ ls : Array Slot, lv_has ls 4 [(0, .ref (q 0)), (2, .int x2), (3, .int x3)] → W p l e (headSpec wsX8_appendPart rX8_appendPartx).room s m ([.ref (q 0), .int p1, .int p2] : List Value).toArray below meth c H locs 0 0 (vx_MQ below (fun _ _ _ _ => False) (gX D (gEn e0) (w_0_1_2 q cI cJ cD Tn9 Ta9) (gA q [0, 1, 2])) ([.ref (q 0), .int p1, .int p2] : List Value).toArray s 1 6 (gA q [0, 1, 2])) (F0 m 15 ls []) := by
    intro n15
    induction n15 with
    | zero =>
      intro Tn Ta x2 x3 hf
      exact nomatch (show (none : Option ((Nat × Int32 × (Nat → Int32)) ⊕ (Int32 × Int32 × (Nat → Int32)))) = some (.inl (e0, Tn9, Ta9)) from hf)
    | succ n15 ih15 =>
      intro Tn Ta x2 x3 hf H locs hP hS ls hl
      have hf : fX8_appendPart_B15 N (fX8_appendPart_H15 N n15) Tn Ta x2 x3 = some (.inl (e0, Tn9, Ta9)) := hf
      unfold fX8_appendPart_B15 at hf
      refine lv_iload_n hx hb dX8_appendPart_15 rfl (lv_at hl 2 rfl) ?_
      refine lv_iload_n hx hb dX8_appendPart_16 rfl (lv_at hl 1 rfl) ?_
      refine lv_icmp_ge (tgt := 41) hx hb dX8_appendPart_17 (by decide) (fun c_1 => ?_) (fun c_1 => ?_)
      · have hf := (if_pos c_1).symm.trans hf
        exact J41 Tn Ta hf _ _ hP hS _ (lv_sub hl [0] rfl)
      · have hf := (if_neg c_1).symm.trans hf
        refine lv_aload_n hx hb dX8_appendPart_20 rfl (lv_at hl 0 rfl) ?_
        refine va_get (D := D) (ci := 6) (v := .ref (q 1)) (C := RX8) (T := TX8) (N := 6) hx hb hts huX8 hown hE.1 hP 0 rfl rfl 0 (by decide) hk10 (fun _ h9 => h9) rfl dX8_appendPart_21 ?_
        refine lv_aload_n hx hb dX8_appendPart_24 rfl (lv_at hl 0 rfl) ?_
        refine va_get (D := D) (ci := 6) (v := .ref (q 1)) (C := RX8) (T := TX8) (N := 6) hx hb hts huX8 hown hE.1 hP 0 rfl rfl 0 (by decide) hk10 (fun _ h9 => h9) rfl dX8_appendPart_25 ?_
        refine lv_iload_n hx hb dX8_appendPart_28 rfl (lv_at hl 2 rfl) ?_
        obtain ⟨r29, hc, hf⟩ := bn_some hf
        try dsimp only at hf
        refine g_call0 (ws' := (w_0_1_2 q cI cJ cD Tn Ta)) (st1 := [.int r29, .ref (q 1)]) hq [0, 1, 2] [1, 2] [.inr 0, .inl 0, .inl 1] (va_runV (As := [.int x3]) (rest := [.ref (q 1)]) ⟨hx, hb, hml, hown, hts⟩ (kX2_letter l D cI cJ cD q hq N Tn Ta x3 r29 hc) (cwV 1 hts gX8_appendPart_X2_letter rfl rfl rfl (by decide +kernel) ⟨(Nat.le_of_ble_eq_true rfl), (Nat.le_of_ble_eq_true rfl)⟩) ⟨gP_blind, va_recv hE.1 hP (ci := 2) (q0 := 1) rfl rfl, fun U hU hW => ⟨rfl, by rw [hU]; exact hP.sub (ws' := (w_1_2 q cI cJ cD Tn Ta)) [1, 2] rfl, gEv.warm hW hE⟩⟩ rfl rfl hl.1 rfl (lv_room (Nat.le_of_ble_eq_true rfl)) dX8_appendPart_29 ⟨Nat.zero_le _, Nat.zero_le _⟩) hP hS (gSub rfl) rfl rfl rfl rfl rfl (fun H locs hP hS => ?_)
        obtain ⟨⟨Tn32, Ta32⟩, hc, hf⟩ := bn_some hf
        try dsimp only at hf
        refine g_call0 (ws' := (w_0_1_2 q cI cJ cD Tn32 Ta32)) (st1 := []) hq [0, 1, 2] [1, 2] [.inr 0, .inl 0, .inl 1] (va_runV (As := [.int r29]) (rest := []) ⟨hx, hb, hml, hown, hts⟩ (kX2_push l D cI cJ cD q hq N Tn Ta r29 Tn32 Ta32 hc) (cwV 1 hts gX8_appendPart_X2_push rfl rfl rfl (by decide +kernel) ⟨(Nat.le_of_ble_eq_true rfl), (Nat.le_of_ble_eq_true rfl)⟩) ⟨gP_blind, va_recv hE.1 hP (ci := 2) (q0 := 1) rfl rfl, fun U hU hW => ⟨rfl, by rw [hU]; exact hP.sub (ws' := (w_1_2 q cI cJ cD Tn Ta)) [1, 2] rfl, gEv.warm hW hE⟩⟩ rfl rfl hl.1 rfl (lv_room (Nat.le_of_ble_eq_true rfl)) dX8_appendPart_32 ⟨Nat.zero_le _, Nat.zero_le _⟩) hP hS (gSub rfl) rfl rfl rfl rfl rfl (fun H locs hP hS => ?_)
        refine lv_iinc (v := (x3 + 1)) (lv' := [(3, .int (x3 + 1)), (0, .ref (q 0)), (2, .int x2)]) hx hb dX8_appendPart_35 hl (k := 2) rfl rfl (by decide) rfl (fun ls hl => ?_)
        refine lv_goto (tgt := 15) hx hb dX8_appendPart_38 (by decide) ?_
        exact ih15 Tn32 Ta32 x2 (x3 + 1) hf _ _ hP hS _ (lv_sub hl [1, 2, 0] rfl)
  unfold fX8_appendPart at hf
  refine lv_aload_n hx hb dX8_appendPart_0 rfl (lv_at hl 0 rfl) ?_
  refine lv_iload_n hx hb dX8_appendPart_1 rfl (lv_at hl 1 rfl) ?_
  refine lv_iload_n hx hb dX8_appendPart_2 rfl (lv_at hl 2 rfl) ?_
  rcases bx_some hf with ⟨e3, hc, hf⟩ | ⟨⟨⟩, hc, hf⟩
  · try dsimp only at hf
    refine g_callX (ws' := (w_0_1_2 q cI cJ cD Tn Ta)) hq [0, 1, 2] [0, 1] [.inl 0, .inl 1, .inr 2] (vx_runV (As := [.int p1, .int p2]) (rest := []) ⟨hx, hb, hml, hown, hts⟩ (kX8_checkPartx l hlt D cI cJ cD sa q hq N Tn p1 p2 e3 hc) (cwV 2 hts gX8_appendPart_X8_checkPart rfl rfl rfl (by decide +kernel) ⟨(Nat.le_of_ble_eq_true rfl), (Nat.le_of_ble_eq_true rfl)⟩) ⟨gPx_blind, va_recv hE.1 hP (ci := 6) (q0 := 0) rfl rfl, fun U hU hW => ⟨rfl, by rw [hU]; exact hP.sub (ws' := (w_0_1 q cI cJ cD Tn)) [0, 1] rfl, gEv.warm hW hE, gXe.go hW hS (gMono rfl) hXe hU⟩⟩ rfl rfl hl.1 rfl (lv_room (Nat.le_of_ble_eq_true rfl)) dX8_appendPart_3 ⟨(Nat.le_of_ble_eq_true rfl), (Nat.le_of_ble_eq_true rfl)⟩) hP hS (gSub rfl) rfl rfl rfl rfl (fun ce q9 H locs hP hS hce hcv hcl => ?_)
    cases hf
    exact vx_out (fun x9 hx9 => (htab x9 hx9).elim) hlocks hce hcv hcl (fun t ht hv => ⟨rfl, by rw [ht]; exact hP, hS.F ht⟩) hS.2.2 (Nat.le_of_ble_eq_true rfl) (Nat.le_of_ble_eq_true rfl)
  try dsimp only at hf
  refine g_call0 (ws' := (w_0_1_2 q cI cJ cD Tn Ta)) (st1 := []) hq [0, 1, 2] [0, 1] [.inl 0, .inl 1, .inr 2] (va_runV (As := [.int p1, .int p2]) (rest := []) ⟨hx, hb, hml, hown, hts⟩ (kX8_checkPart l D cI cJ cD q hq N Tn p1 p2 hc) (cwV 2 hts gX8_appendPart_X8_checkPart rfl rfl rfl (by decide +kernel) ⟨(Nat.le_of_ble_eq_true rfl), (Nat.le_of_ble_eq_true rfl)⟩) ⟨gP_blind, va_recv hE.1 hP (ci := 6) (q0 := 0) rfl rfl, fun U hU hW => ⟨rfl, by rw [hU]; exact hP.sub (ws' := (w_0_1 q cI cJ cD Tn)) [0, 1] rfl, gEv.warm hW hE⟩⟩ rfl rfl hl.1 rfl (lv_room (Nat.le_of_ble_eq_true rfl)) dX8_appendPart_3 ⟨Nat.zero_le _, Nat.zero_le _⟩) hP hS (gSub rfl) rfl rfl rfl rfl rfl (fun H locs hP hS => ?_)
  refine lv_aload_n hx hb dX8_appendPart_6 rfl (lv_at hl 0 rfl) ?_
  refine lv_iload_n hx hb dX8_appendPart_7 rfl (lv_at hl 2 rfl) ?_
  refine lv_iload_n hx hb dX8_appendPart_8 rfl (lv_at hl 1 rfl) ?_
  refine lv_isub hx hb dX8_appendPart_9 ?_
  rcases bx_some hf with ⟨e10, hc, hf⟩ | ⟨⟨⟩, hc, hf⟩
  · try dsimp only at hf
    refine g_callX (ws' := (w_0_1_2 q cI cJ cD Tn Ta)) hq [0, 1, 2] [0, 1] [.inl 0, .inl 1, .inr 2] (vx_runV (As := [.int (p2 - p1)]) (rest := []) ⟨hx, hb, hml, hown, hts⟩ (kX8_checkRoomx l hlt D cI cJ cD sa q hq N Tn (p2 - p1) e10 hc) (cwV 1 hts gX8_appendPart_X8_checkRoom rfl rfl rfl (by decide +kernel) ⟨(Nat.le_of_ble_eq_true rfl), (Nat.le_of_ble_eq_true rfl)⟩) ⟨gPx_blind, va_recv hE.1 hP (ci := 6) (q0 := 0) rfl rfl, fun U hU hW => ⟨rfl, by rw [hU]; exact hP.sub (ws' := (w_0_1 q cI cJ cD Tn)) [0, 1] rfl, gEv.warm hW hE, gXe.go hW hS (gMono rfl) hXe hU⟩⟩ rfl rfl hl.1 rfl (lv_room (Nat.le_of_ble_eq_true rfl)) dX8_appendPart_10 ⟨(Nat.le_of_ble_eq_true rfl), (Nat.le_of_ble_eq_true rfl)⟩) hP hS (gSub rfl) rfl rfl rfl rfl (fun ce q9 H locs hP hS hce hcv hcl => ?_)
    cases hf
    exact vx_out (fun x9 hx9 => (htab x9 hx9).elim) hlocks hce hcv hcl (fun t ht hv => ⟨rfl, by rw [ht]; exact hP, hS.F ht⟩) hS.2.2 (Nat.le_of_ble_eq_true rfl) (Nat.le_of_ble_eq_true rfl)
  try dsimp only at hf
  refine g_call0 (ws' := (w_0_1_2 q cI cJ cD Tn Ta)) (st1 := []) hq [0, 1, 2] [0, 1] [.inl 0, .inl 1, .inr 2] (va_runV (As := [.int (p2 - p1)]) (rest := []) ⟨hx, hb, hml, hown, hts⟩ (kX8_checkRoom l D cI cJ cD q hq N Tn (p2 - p1) hc) (cwV 1 hts gX8_appendPart_X8_checkRoom rfl rfl rfl (by decide +kernel) ⟨(Nat.le_of_ble_eq_true rfl), (Nat.le_of_ble_eq_true rfl)⟩) ⟨gP_blind, va_recv hE.1 hP (ci := 6) (q0 := 0) rfl rfl, fun U hU hW => ⟨rfl, by rw [hU]; exact hP.sub (ws' := (w_0_1 q cI cJ cD Tn)) [0, 1] rfl, gEv.warm hW hE⟩⟩ rfl rfl hl.1 rfl (lv_room (Nat.le_of_ble_eq_true rfl)) dX8_appendPart_10 ⟨Nat.zero_le _, Nat.zero_le _⟩) hP hS (gSub rfl) rfl rfl rfl rfl rfl (fun H locs hP hS => ?_)
  refine lv_iload_n hx hb dX8_appendPart_13 rfl (lv_at hl 1 rfl) ?_
  refine lv_istore_n (lv' := [(3, .int p1), (0, .ref (q 0)), (1, .int p1), (2, .int p2)]) hx hb dX8_appendPart_14 rfl hl (by decide) rfl (fun ls hl => ?_)
  exact K15 N Tn Ta p2 p1 hf _ _ hP hS _ (lv_sub hl [1, 3, 0] rfl)
set_option maxHeartbeats 4000000 in
set_option maxRecDepth 100000 in
theorem kX8_pushFromWalk (l : Launch) (D : va_G) (cI cJ cD : ClassId) (q : Nat → Nat) (hq : gInj q) (N : Nat) (Tn : Int32) (Ta : (Nat → Int32)) (Wg : Int32) (Wz : Int32) (Ww : Int32) (Wr : Int32) (p1 : Int32) (Tn9 : Int32) (Ta9 : (Nat → Int32)) (hf : fX8_pushFromWalk N Tn Ta Wg Wz Ww Wr p1 = some (Tn9, Ta9)) : Met l yX8_pushFromWalk wsX8_pushFromWalk rX8_pushFromWalk (gP D cI cJ cD [.ref (q 0), .int p1] (w_0_1_2_13 q cI cJ cD Tn Ta Wg Wz Ww Wr)) (gQ D none (w_0_1_2_13 q cI cJ cD Tn9 Ta9 Wg Wz Ww Wr) (gA q [0, 1, 2, 13])) 0 0 (gA q [0, 1, 2, 13]) := by
  refine Met.ofW (cc := cX8_pushFromWalk) (maxL := 3) (ret := none) (by decide +kernel) rfl ?_
  intro p e s m args below meth c s₁ B hml hv
  obtain ⟨rfl, hP, hE⟩ := hv
  have hx := B.exec
  have hb := B.bytes
  have hr := B.returns
  have hts := atoms_spec (ws := wsX8_pushFromWalk) B.pre
  have hown : s.vm.findClass RX8 = some m.cls := findClass_of_methodNamed B.named
  have hlocks := B.notSynchronized
  have hS : va_S (gA q [0, 1, 2, 13]) s.heap s.heap [] := va_S.rf
  have hl := lv_entry ([.ref (q 0), .int p1]) (n := 3) (Nat.le_of_ble_eq_true rfl)
  rw [lg_entry_eq]
  generalize (lg_sl ([.ref (q 0), .int p1]) ++ List.replicate (3 - (lg_sl ([.ref (q 0), .int p1])).length) Slot.unset).toArray = ls at hl ⊢
  have hl : lv_has ls 3 [(0, .ref (q 0)), (1, .int p1)] := hl
  have hk10 := hts (.fieldLink RX8 10 "LyndonText" "text" "LLyndonText$Letters;") (by decide +kernel)
  have hk47 := hts (.fieldLink RX8 47 "LyndonText" "walk" "LLyndonText$NecklaceWalk;") (by decide +kernel)
  have huX8 : ∀ w ∈ u_ws RX8 TX8 6, w ∈ wsX8_pushFromWalk := by decide +kernel
  have J28 : ∀ (Tn : Int32) (Ta : (Nat → Int32)), fX8_pushFromWalk_J28 N Wg Wz Ww Wr Tn Ta = some (Tn9, Ta9) → ∀ (H : Heap) (locs : List Loc), va_P D vwCl (w_0_1_2_13 q cI cJ cD Tn Ta Wg Wz Ww Wr) H → va_S (gA q [0, 1, 2, 13]) s.heap H locs → ∀ ls : Array Slot, lv_has ls 3 [] → W p l e (headSpec wsX8_pushFromWalk rX8_pushFromWalk).room s m ([.ref (q 0), .int p1] : List Value).toArray below meth c H locs 0 0 (MQ below (gQ D none (w_0_1_2_13 q cI cJ cD Tn9 Ta9 Wg Wz Ww Wr) (gA q [0, 1, 2, 13])) ([.ref (q 0), .int p1] : List Value).toArray s 0 0 (gA q [0, 1, 2, 13])) (F0 m 28 ls []) := by
    intro Tn Ta hf H locs hP hS ls hl
    unfold fX8_pushFromWalk_J28 at hf
    cases hf
    exact W.vret hx hb hr (fun t ht hW => ⟨⟨rfl, by rw [ht]; exact hP⟩, hS.F ht⟩) hS.2.2 dX8_pushFromWalk_28
  have K2 : ∀ (n2 : Nat) (Tn : Int32) (Ta : (Nat → Int32)) (x1 : Int32) (x2 : Int32), fX8_pushFromWalk_H2 N Wg Wz Ww Wr n2 Tn Ta x1 x2 = some (Tn9, Ta9) → ∀ (H : Heap) (locs : List Loc), va_P D vwCl (w_0_1_2_13 q cI cJ cD Tn Ta Wg Wz Ww Wr) H → va_S (gA q [0, 1, 2, 13]) s.heap H locs → ∀ ls : Array Slot, lv_has ls 3 [(0, .ref (q 0)), (1, .int x1), (2, .int x2)] → W p l e (headSpec wsX8_pushFromWalk rX8_pushFromWalk).room s m ([.ref (q 0), .int p1] : List Value).toArray below meth c H locs 0 0 (MQ below (gQ D none (w_0_1_2_13 q cI cJ cD Tn9 Ta9 Wg Wz Ww Wr) (gA q [0, 1, 2, 13])) ([.ref (q 0), .int p1] : List Value).toArray s 0 0 (gA q [0, 1, 2, 13])) (F0 m 2 ls []) := by
    intro n2
    induction n2 with
    | zero =>
      intro Tn Ta x1 x2 hf
      exact nomatch (show (none : Option (Int32 × (Nat → Int32))) = some (Tn9, Ta9) from hf)
    | succ n2 ih2 =>
      intro Tn Ta x1 x2 hf H locs hP hS ls hl
      have hf : fX8_pushFromWalk_B2 N Wg Wz Ww Wr (fX8_pushFromWalk_H2 N Wg Wz Ww Wr n2) Tn Ta x1 x2 = some (Tn9, Ta9) := hf
      unfold fX8_pushFromWalk_B2 at hf
      refine lv_iload_n hx hb dX8_pushFromWalk_2 rfl (lv_at hl 2 rfl) ?_
      refine lv_iload_n hx hb dX8_pushFromWalk_3 rfl (lv_at hl 1 rfl) ?_
      refine lv_icmp_ge (tgt := 28) hx hb dX8_pushFromWalk_4 (by decide) (fun c_1 => ?_) (fun c_1 => ?_)
      · have hf := (if_pos c_1).symm.trans hf
        exact J28 Tn Ta hf _ _ hP hS _ (lv_sub hl [] rfl)
      · have hf := (if_neg c_1).symm.trans hf
        refine lv_aload_n hx hb dX8_pushFromWalk_7 rfl (lv_at hl 0 rfl) ?_
        refine va_get (D := D) (ci := 6) (v := .ref (q 1)) (C := RX8) (T := TX8) (N := 6) hx hb hts huX8 hown hE.1 hP 0 rfl rfl 0 (by decide) hk10 (fun _ h9 => h9) rfl dX8_pushFromWalk_8 ?_
        refine lv_aload_n hx hb dX8_pushFromWalk_11 rfl (lv_at hl 0 rfl) ?_
        refine va_get (D := D) (ci := 6) (v := .ref (q 13)) (C := RX8) (T := TX8) (N := 6) hx hb hts huX8 hown hE.1 hP 0 rfl rfl 5 (by decide) hk47 (fun _ h9 => h9) rfl dX8_pushFromWalk_12 ?_
        refine lv_iload_n hx hb dX8_pushFromWalk_15 rfl (lv_at hl 2 rfl) ?_
        obtain ⟨r16, hc, hf⟩ := bn_some hf
        try dsimp only at hf
        refine g_call0 (ws' := (w_0_1_2_13 q cI cJ cD Tn Ta Wg Wz Ww Wr)) (st1 := [.int r16, .ref (q 1)]) hq [0, 1, 2, 13] [13] [.inr 0, .inr 1, .inr 2, .inl 0] (va_runV (As := [.int x2]) (rest := [.ref (q 1)]) ⟨hx, hb, hml, hown, hts⟩ (kX3_letter l D cI cJ cD q hq N Wg Wz Ww Wr x2 r16 hc) (cwV 1 hts gX8_pushFromWalk_X3_letter rfl rfl rfl (by decide +kernel) ⟨(Nat.le_of_ble_eq_true rfl), (Nat.le_of_ble_eq_true rfl)⟩) ⟨gP_blind, va_recv hE.1 hP (ci := 3) (q0 := 3) rfl rfl, fun U hU hW => ⟨rfl, by rw [hU]; exact hP.sub (ws' := (w_13 q cI cJ cD Wg Wz Ww Wr)) [3] rfl, gEv.warm hW hE⟩⟩ rfl rfl hl.1 rfl (lv_room (Nat.le_of_ble_eq_true rfl)) dX8_pushFromWalk_16 ⟨Nat.zero_le _, Nat.zero_le _⟩) hP hS (gSub rfl) rfl rfl rfl rfl rfl (fun H locs hP hS => ?_)
        obtain ⟨⟨Tn19, Ta19⟩, hc, hf⟩ := bn_some hf
        try dsimp only at hf
        refine g_call0 (ws' := (w_0_1_2_13 q cI cJ cD Tn19 Ta19 Wg Wz Ww Wr)) (st1 := []) hq [0, 1, 2, 13] [1, 2] [.inr 0, .inl 0, .inl 1, .inr 3] (va_runV (As := [.int r16]) (rest := []) ⟨hx, hb, hml, hown, hts⟩ (kX2_push l D cI cJ cD q hq N Tn Ta r16 Tn19 Ta19 hc) (cwV 1 hts gX8_pushFromWalk_X2_push rfl rfl rfl (by decide +kernel) ⟨(Nat.le_of_ble_eq_true rfl), (Nat.le_of_ble_eq_true rfl)⟩) ⟨gP_blind, va_recv hE.1 hP (ci := 2) (q0 := 1) rfl rfl, fun U hU hW => ⟨rfl, by rw [hU]; exact hP.sub (ws' := (w_1_2 q cI cJ cD Tn Ta)) [1, 2] rfl, gEv.warm hW hE⟩⟩ rfl rfl hl.1 rfl (lv_room (Nat.le_of_ble_eq_true rfl)) dX8_pushFromWalk_19 ⟨Nat.zero_le _, Nat.zero_le _⟩) hP hS (gSub rfl) rfl rfl rfl rfl rfl (fun H locs hP hS => ?_)
        refine lv_iinc (v := (x2 + 1)) (lv' := [(2, .int (x2 + 1)), (0, .ref (q 0)), (1, .int x1)]) hx hb dX8_pushFromWalk_22 hl (k := 2) rfl rfl (by decide) rfl (fun ls hl => ?_)
        refine lv_goto (tgt := 2) hx hb dX8_pushFromWalk_25 (by decide) ?_
        exact ih2 Tn19 Ta19 x1 (x2 + 1) hf _ _ hP hS _ (lv_sub hl [1, 2, 0] rfl)
  unfold fX8_pushFromWalk at hf
  refine lv_iconst (v := (0 : Int32)) hx hb dX8_pushFromWalk_0 (by decide) ?_
  refine lv_istore_n (lv' := [(2, .int (0 : Int32)), (0, .ref (q 0)), (1, .int p1)]) hx hb dX8_pushFromWalk_1 rfl hl (by decide) rfl (fun ls hl => ?_)
  exact K2 N Tn Ta p1 (0 : Int32) hf _ _ hP hS _ (lv_sub hl [1, 2, 0] rfl)
set_option maxHeartbeats 4000000 in
set_option maxRecDepth 100000 in
theorem kX8_loadDeBruijn (l : Launch) (D : va_G) (cI cJ cD : ClassId) (q : Nat → Nat) (hq : gInj q) (N : Nat) (Tn : Int32) (Ta : (Nat → Int32)) (Wg : Int32) (Wz : Int32) (Ww : Int32) (Wr : Int32) (p1 : Int32) (p2 : Int32) (r0 : Int32) (Tn9 : Int32) (Ta9 : (Nat → Int32)) (Wg9 : Int32) (Wz9 : Int32) (Ww9 : Int32) (Wr9 : Int32) (hf : fX8_loadDeBruijn N Tn Ta Wg Wz Ww Wr p1 p2 = some (.inr (r0, Tn9, Ta9, Wg9, Wz9, Ww9, Wr9))) : Met l yX8_loadDeBruijn wsX8_loadDeBruijn rX8_loadDeBruijn (gP D cI cJ cD [.ref (q 0), .int p1, .int p2] (w_0_1_2_13 q cI cJ cD Tn Ta Wg Wz Ww Wr)) (gQ D (some (.int r0)) (w_0_1_2_13 q cI cJ cD Tn9 Ta9 Wg9 Wz9 Ww9 Wr9) (gA q [0, 1, 2, 13])) 0 0 (gA q [0, 1, 2, 13]) := by
  refine Met.ofW (cc := cX8_loadDeBruijn) (maxL := 5) (ret := (some .int)) (by decide +kernel) rfl ?_
  intro p e s m args below meth c s₁ B hml hv
  obtain ⟨rfl, hP, hE⟩ := hv
  have hx := B.exec
  have hb := B.bytes
  have hr := B.returns
  have hts := atoms_spec (ws := wsX8_loadDeBruijn) B.pre
  have hown : s.vm.findClass RX8 = some m.cls := findClass_of_methodNamed B.named
  have hlocks := B.notSynchronized
  have hS : va_S (gA q [0, 1, 2, 13]) s.heap s.heap [] := va_S.rf
  have hl := lv_entry ([.ref (q 0), .int p1, .int p2]) (n := 5) (Nat.le_of_ble_eq_true rfl)
  rw [lg_entry_eq]
  generalize (lg_sl ([.ref (q 0), .int p1, .int p2]) ++ List.replicate (5 - (lg_sl ([.ref (q 0), .int p1, .int p2])).length) Slot.unset).toArray = ls at hl ⊢
  have hl : lv_has ls 5 [(0, .ref (q 0)), (1, .int p1), (2, .int p2)] := hl
  have hk10 := hts (.fieldLink RX8 10 "LyndonText" "text" "LLyndonText$Letters;") (by decide +kernel)
  have hk47 := hts (.fieldLink RX8 47 "LyndonText" "walk" "LLyndonText$NecklaceWalk;") (by decide +kernel)
  have huX8 : ∀ w ∈ u_ws RX8 TX8 6, w ∈ wsX8_loadDeBruijn := by decide +kernel
  have J93 : ∀ (Tn : Int32) (Ta : (Nat → Int32)) (Wg : Int32) (Wz : Int32) (Ww : Int32) (Wr : Int32), fX8_loadDeBruijn_J93 N Tn Ta Wg Wz Ww Wr = some (.inr (r0, Tn9, Ta9, Wg9, Wz9, Ww9, Wr9)) → ∀ (H : Heap) (locs : List Loc), va_P D vwCl (w_0_1_2_13 q cI cJ cD Tn Ta Wg Wz Ww Wr) H → va_S (gA q [0, 1, 2, 13]) s.heap H locs → ∀ ls : Array Slot, lv_has ls 5 [(0, .ref (q 0))] → W p l e (headSpec wsX8_loadDeBruijn rX8_loadDeBruijn).room s m ([.ref (q 0), .int p1, .int p2] : List Value).toArray below meth c H locs 0 0 (MQ below (gQ D (some (.int r0)) (w_0_1_2_13 q cI cJ cD Tn9 Ta9 Wg9 Wz9 Ww9 Wr9) (gA q [0, 1, 2, 13])) ([.ref (q 0), .int p1, .int p2] : List Value).toArray s 0 0 (gA q [0, 1, 2, 13])) (F0 m 93 ls []) := by
    intro Tn Ta Wg Wz Ww Wr hf H locs hP hS ls hl
    unfold fX8_loadDeBruijn_J93 at hf
    refine lv_aload_n hx hb dX8_loadDeBruijn_93 rfl (lv_at hl 0 rfl) ?_
    refine va_get (D := D) (ci := 6) (v := .ref (q 1)) (C := RX8) (T := TX8) (N := 6) hx hb hts huX8 hown hE.1 hP 0 rfl rfl 0 (by decide) hk10 (fun _ h9 => h9) rfl dX8_loadDeBruijn_94 ?_
    obtain ⟨r97, hc, hf⟩ := bn_some hf
    try dsimp only at hf
    refine g_call0 (ws' := (w_0_1_2_13 q cI cJ cD Tn Ta Wg Wz Ww Wr)) (st1 := [.int r97]) hq [0, 1, 2, 13] [1] [.inr 0, .inl 0, .inr 2, .inr 3] (va_runV (As := []) (rest := []) ⟨hx, hb, hml, hown, hts⟩ (kX2_count l D cI cJ cD q hq N Tn r97 hc) (cwV 0 hts gX8_loadDeBruijn_X2_count rfl rfl rfl (by decide +kernel) ⟨(Nat.le_of_ble_eq_true rfl), (Nat.le_of_ble_eq_true rfl)⟩) ⟨gP_blind, va_recv hE.1 hP (ci := 2) (q0 := 1) rfl rfl, fun U hU hW => ⟨rfl, by rw [hU]; exact hP.sub (ws' := (w_1 q cI cJ cD Tn)) [1] rfl, gEv.warm hW hE⟩⟩ rfl rfl hl.1 rfl (lv_room (Nat.le_of_ble_eq_true rfl)) dX8_loadDeBruijn_97 ⟨Nat.zero_le _, Nat.zero_le _⟩) hP hS (gSub rfl) rfl rfl rfl rfl rfl (fun H locs hP hS => ?_)
    cases hf
    exact W.iret hx hb hr (fun t ht hW => ⟨⟨rfl, by rw [ht]; exact hP⟩, hS.F ht⟩) hS.2.2 dX8_loadDeBruijn_100
  have K57 : ∀ (n57 : Nat) (Tn : Int32) (Ta : (Nat → Int32)) (Wg : Int32) (Wz : Int32) (Ww : Int32) (Wr : Int32) (x3 : Int32) (x4 : Int32), fX8_loadDeBruijn_H57 N n57 Tn Ta Wg Wz Ww Wr x3 x4 = some (.inr (r0, Tn9, Ta9, Wg9, Wz9, Ww9, Wr9)) → ∀ (H : Heap) (locs : List Loc), va_P D vwCl (w_0_1_2_13 q cI cJ cD Tn Ta Wg Wz Ww Wr) H → va_S (gA q [0, 1, 2, 13]) s.heap H locs → ∀ ls : Array Slot, lv_has ls 5 [(0, .ref (q 0)), (3, .int x3), (4, .int x4)] → W p l e (headSpec wsX8_loadDeBruijn rX8_loadDeBruijn).room s m ([.ref (q 0), .int p1, .int p2] : List Value).toArray below meth c H locs 0 0 (MQ below (gQ D (some (.int r0)) (w_0_1_2_13 q cI cJ cD Tn9 Ta9 Wg9 Wz9 Ww9 Wr9) (gA q [0, 1, 2, 13])) ([.ref (q 0), .int p1, .int p2] : List Value).toArray s 0 0 (gA q [0, 1, 2, 13])) (F0 m 57 ls []) := by
    intro n57
    induction n57 with
    | zero =>
      intro Tn Ta Wg Wz Ww Wr x3 x4 hf
      exact nomatch (show (none : Option ((Nat × Int32 × (Nat → Int32) × Int32 × Int32 × Int32 × Int32) ⊕ (Int32 × Int32 × (Nat → Int32) × Int32 × Int32 × Int32 × Int32))) = some (.inr (r0, Tn9, Ta9, Wg9, Wz9, Ww9, Wr9)) from hf)
    | succ n57 ih57 =>
      intro Tn Ta Wg Wz Ww Wr x3 x4 hf H locs hP hS ls hl
      have hf : fX8_loadDeBruijn_B57 N (fX8_loadDeBruijn_H57 N n57) Tn Ta Wg Wz Ww Wr x3 x4 = some (.inr (r0, Tn9, Ta9, Wg9, Wz9, Ww9, Wr9)) := hf
      unfold fX8_loadDeBruijn_B57 at hf
      refine lv_iload_n hx hb dX8_loadDeBruijn_57 rfl (lv_at hl 1 rfl) ?_
      refine lv_if_eq (tgt := 93) hx hb dX8_loadDeBruijn_58 (by decide) (fun c_1 => ?_) (fun c_1 => ?_)
      · have hf := (if_pos c_1).symm.trans hf
        exact J93 Tn Ta Wg Wz Ww Wr hf _ _ hP hS _ (lv_sub hl [0] rfl)
      · have hf := (if_neg c_1).symm.trans hf
        refine lv_iload hx hb dX8_loadDeBruijn_61 (lv_at hl 2 rfl) ?_
        refine lv_bipush (v := (64 : Int32)) hx hb dX8_loadDeBruijn_63 (by decide) ?_
        refine lv_icmp_ge (tgt := 93) hx hb dX8_loadDeBruijn_65 (by decide) (fun c_2 => ?_) (fun c_2 => ?_)
        · have hf := (if_pos c_2).symm.trans hf
          exact J93 Tn Ta Wg Wz Ww Wr hf _ _ hP hS _ (lv_sub hl [0] rfl)
        · have hf := (if_neg c_2).symm.trans hf
          refine lv_aload_n hx hb dX8_loadDeBruijn_68 rfl (lv_at hl 0 rfl) ?_
          refine lv_aload_n hx hb dX8_loadDeBruijn_69 rfl (lv_at hl 0 rfl) ?_
          refine va_get (D := D) (ci := 6) (v := .ref (q 13)) (C := RX8) (T := TX8) (N := 6) hx hb hts huX8 hown hE.1 hP 0 rfl rfl 5 (by decide) hk47 (fun _ h9 => h9) rfl dX8_loadDeBruijn_70 ?_
          obtain ⟨r73, hc, hf⟩ := bn_some hf
          try dsimp only at hf
          refine g_call0 (ws' := (w_0_1_2_13 q cI cJ cD Tn Ta Wg Wz Ww Wr)) (st1 := [.int r73, .ref (q 0)]) hq [0, 1, 2, 13] [13] [.inr 0, .inr 1, .inr 2, .inl 0] (va_runV (As := []) (rest := [.ref (q 0)]) ⟨hx, hb, hml, hown, hts⟩ (kX3_root l D cI cJ cD q hq N Wg Wz Ww Wr r73 hc) (cwV 0 hts gX8_loadDeBruijn_X3_root rfl rfl rfl (by decide +kernel) ⟨(Nat.le_of_ble_eq_true rfl), (Nat.le_of_ble_eq_true rfl)⟩) ⟨gP_blind, va_recv hE.1 hP (ci := 3) (q0 := 3) rfl rfl, fun U hU hW => ⟨rfl, by rw [hU]; exact hP.sub (ws' := (w_13 q cI cJ cD Wg Wz Ww Wr)) [3] rfl, gEv.warm hW hE⟩⟩ rfl rfl hl.1 rfl (lv_room (Nat.le_of_ble_eq_true rfl)) dX8_loadDeBruijn_73 ⟨Nat.zero_le _, Nat.zero_le _⟩) hP hS (gSub rfl) rfl rfl rfl rfl rfl (fun H locs hP hS => ?_)
          obtain ⟨⟨Tn76, Ta76⟩, hc, hf⟩ := bn_some hf
          try dsimp only at hf
          refine g_call0 (ws' := (w_0_1_2_13 q cI cJ cD Tn76 Ta76 Wg Wz Ww Wr)) (st1 := []) hq [0, 1, 2, 13] [0, 1, 2, 13] [.inl 0, .inl 1, .inl 2, .inl 3] (va_runV (As := [.int r73]) (rest := []) ⟨hx, hb, hml, hown, hts⟩ (kX8_pushFromWalk l D cI cJ cD q hq N Tn Ta Wg Wz Ww Wr r73 Tn76 Ta76 hc) (cwV 1 hts gX8_loadDeBruijn_X8_pushFromWalk rfl rfl rfl (by decide +kernel) ⟨(Nat.le_of_ble_eq_true rfl), (Nat.le_of_ble_eq_true rfl)⟩) ⟨gP_blind, va_recv hE.1 hP (ci := 6) (q0 := 0) rfl rfl, fun U hU hW => ⟨rfl, by rw [hU]; exact hP.sub (ws' := (w_0_1_2_13 q cI cJ cD Tn Ta Wg Wz Ww Wr)) [0, 1, 2, 3] rfl, gEv.warm hW hE⟩⟩ rfl rfl hl.1 rfl (lv_room (Nat.le_of_ble_eq_true rfl)) dX8_loadDeBruijn_76 ⟨Nat.zero_le _, Nat.zero_le _⟩) hP hS (gSub rfl) rfl rfl rfl rfl rfl (fun H locs hP hS => ?_)
          refine lv_aload_n hx hb dX8_loadDeBruijn_79 rfl (lv_at hl 0 rfl) ?_
          refine va_get (D := D) (ci := 6) (v := .ref (q 13)) (C := RX8) (T := TX8) (N := 6) hx hb hts huX8 hown hE.1 hP 0 rfl rfl 5 (by decide) hk47 (fun _ h9 => h9) rfl dX8_loadDeBruijn_80 ?_
          obtain ⟨⟨r83, Ww83, Wr83⟩, hc, hf⟩ := bn_some hf
          try dsimp only at hf
          refine g_call0 (ws' := (w_0_1_2_13 q cI cJ cD Tn76 Ta76 Wg Wz Ww83 Wr83)) (st1 := [.int r83]) hq [0, 1, 2, 13] [13] [.inr 0, .inr 1, .inr 2, .inl 0] (va_runV (As := []) (rest := []) ⟨hx, hb, hml, hown, hts⟩ (kX3_toNextNecklace l D cI cJ cD q hq N Wg Wz Ww Wr r83 Ww83 Wr83 hc) (cwV 0 hts gX8_loadDeBruijn_X3_toNextNecklace rfl rfl rfl (by decide +kernel) ⟨(Nat.le_of_ble_eq_true rfl), (Nat.le_of_ble_eq_true rfl)⟩) ⟨gP_blind, va_recv hE.1 hP (ci := 3) (q0 := 3) rfl rfl, fun U hU hW => ⟨rfl, by rw [hU]; exact hP.sub (ws' := (w_13 q cI cJ cD Wg Wz Ww Wr)) [3] rfl, gEv.warm hW hE⟩⟩ rfl rfl hl.1 rfl (lv_room (Nat.le_of_ble_eq_true rfl)) dX8_loadDeBruijn_83 ⟨Nat.zero_le _, Nat.zero_le _⟩) hP hS (gSub rfl) rfl rfl rfl rfl rfl (fun H locs hP hS => ?_)
          refine lv_istore_n (lv' := [(3, .int r83), (0, .ref (q 0)), (4, .int x4)]) hx hb dX8_loadDeBruijn_86 rfl hl (by decide) rfl (fun ls hl => ?_)
          refine lv_iinc (v := (x4 + 1)) (lv' := [(4, .int (x4 + 1)), (3, .int r83), (0, .ref (q 0))]) hx hb dX8_loadDeBruijn_87 hl (k := 2) rfl rfl (by decide) rfl (fun ls hl => ?_)
          refine lv_goto (tgt := 57) hx hb dX8_loadDeBruijn_90 (by decide) ?_
          exact ih57 Tn76 Ta76 Wg Wz Ww83 Wr83 r83 (x4 + 1) hf _ _ hP hS _ (lv_sub hl [2, 1, 0] rfl)
  unfold fX8_loadDeBruijn at hf
  refine lv_iload_n hx hb dX8_loadDeBruijn_0 rfl (lv_at hl 1 rfl) ?_
  refine lv_iconst (v := (1 : Int32)) hx hb dX8_loadDeBruijn_1 (by decide) ?_
  refine lv_bipush (v := (8 : Int32)) hx hb dX8_loadDeBruijn_2 (by decide) ?_
  rcases bx_some hf with ⟨e4, hc, hf⟩ | ⟨⟨⟩, hc, hf⟩
  · exact nomatch hf
  try dsimp only at hf
  refine g_call0 (ws' := (w_0_1_2_13 q cI cJ cD Tn Ta Wg Wz Ww Wr)) (st1 := []) hq [0, 1, 2, 13] [] [.inr 0, .inr 1, .inr 2, .inr 3] (va_runS (As := [.int p1, .int (1 : Int32), .int (8 : Int32)]) (rest := []) ⟨hx, hb, hml, hown, hts⟩ (kX8_checkArgument l D cI cJ cD q hq N p1 (1 : Int32) (8 : Int32) hc) (va_cwS 3 hts gX8_loadDeBruijn_X8_checkArgument rfl rfl rfl (by decide +kernel) ⟨(Nat.le_of_ble_eq_true rfl), (Nat.le_of_ble_eq_true rfl)⟩) ⟨gP_blind, fun U hU hW => ⟨rfl, by rw [hU]; exact hP.sub (ws' := (w_0none q cI cJ cD)) [] rfl, gEv.warm hW hE⟩⟩ rfl rfl hl.1 rfl (lv_room (Nat.le_of_ble_eq_true rfl)) dX8_loadDeBruijn_4 ⟨Nat.zero_le _, Nat.zero_le _⟩) hP hS (gSub rfl) rfl rfl rfl rfl rfl (fun H locs hP hS => ?_)
  refine lv_iload_n hx hb dX8_loadDeBruijn_7 rfl (lv_at hl 2 rfl) ?_
  refine lv_iconst (v := (1 : Int32)) hx hb dX8_loadDeBruijn_8 (by decide) ?_
  refine lv_bipush (v := (6 : Int32)) hx hb dX8_loadDeBruijn_9 (by decide) ?_
  rcases bx_some hf with ⟨e11, hc, hf⟩ | ⟨⟨⟩, hc, hf⟩
  · exact nomatch hf
  try dsimp only at hf
  refine g_call0 (ws' := (w_0_1_2_13 q cI cJ cD Tn Ta Wg Wz Ww Wr)) (st1 := []) hq [0, 1, 2, 13] [] [.inr 0, .inr 1, .inr 2, .inr 3] (va_runS (As := [.int p2, .int (1 : Int32), .int (6 : Int32)]) (rest := []) ⟨hx, hb, hml, hown, hts⟩ (kX8_checkArgument l D cI cJ cD q hq N p2 (1 : Int32) (6 : Int32) hc) (va_cwS 3 hts gX8_loadDeBruijn_X8_checkArgument rfl rfl rfl (by decide +kernel) ⟨(Nat.le_of_ble_eq_true rfl), (Nat.le_of_ble_eq_true rfl)⟩) ⟨gP_blind, fun U hU hW => ⟨rfl, by rw [hU]; exact hP.sub (ws' := (w_0none q cI cJ cD)) [] rfl, gEv.warm hW hE⟩⟩ rfl rfl hl.1 rfl (lv_room (Nat.le_of_ble_eq_true rfl)) dX8_loadDeBruijn_11 ⟨Nat.zero_le _, Nat.zero_le _⟩) hP hS (gSub rfl) rfl rfl rfl rfl rfl (fun H locs hP hS => ?_)
  refine lv_iload_n hx hb dX8_loadDeBruijn_14 rfl (lv_at hl 1 rfl) ?_
  refine lv_iload_n hx hb dX8_loadDeBruijn_15 rfl (lv_at hl 2 rfl) ?_
  obtain ⟨r16, hc, hf⟩ := bn_some hf
  try dsimp only at hf
  refine g_call0 (ws' := (w_0_1_2_13 q cI cJ cD Tn Ta Wg Wz Ww Wr)) (st1 := [.long r16]) hq [0, 1, 2, 13] [] [.inr 0, .inr 1, .inr 2, .inr 3] (va_runS (As := [.int p1, .int p2]) (rest := []) ⟨hx, hb, hml, hown, hts⟩ (kX4_power l D cI cJ cD q hq N p1 p2 r16 hc) (va_cwS 2 hts gX8_loadDeBruijn_X4_power rfl rfl rfl (by decide +kernel) ⟨(Nat.le_of_ble_eq_true rfl), (Nat.le_of_ble_eq_true rfl)⟩) ⟨gP_blind, fun U hU hW => ⟨rfl, by rw [hU]; exact hP.sub (ws' := (w_0none q cI cJ cD)) [] rfl, gEv.warm hW hE⟩⟩ rfl rfl hl.1 rfl (lv_room (Nat.le_of_ble_eq_true rfl)) dX8_loadDeBruijn_16 ⟨Nat.zero_le _, Nat.zero_le _⟩) hP hS (gSub rfl) rfl rfl rfl rfl rfl (fun H locs hP hS => ?_)
  refine lv_ldc2 (v := (64 : Int64)) hx hb hown (hts (.constantLong RX8 105 (64 : Int64)) (by decide +kernel)) dX8_loadDeBruijn_19 ?_
  refine W.lcmp hx hb dX8_loadDeBruijn_22 ?_
  refine lv_if_le (tgt := 36) hx hb dX8_loadDeBruijn_23 (by decide) (fun c_3 => ?_) (fun c_3 => ?_)
  · have hf := (if_pos c_3).symm.trans hf
    refine lv_aload_n hx hb dX8_loadDeBruijn_36 rfl (lv_at hl 0 rfl) ?_
    refine va_get (D := D) (ci := 6) (v := .ref (q 1)) (C := RX8) (T := TX8) (N := 6) hx hb hts huX8 hown hE.1 hP 0 rfl rfl 0 (by decide) hk10 (fun _ h9 => h9) rfl dX8_loadDeBruijn_37 ?_
    obtain ⟨Tn40, hc, hf⟩ := bn_some hf
    try dsimp only at hf
    refine g_call0 (ws' := (w_0_1_2_13 q cI cJ cD Tn40 Ta Wg Wz Ww Wr)) (st1 := []) hq [0, 1, 2, 13] [1] [.inr 0, .inl 0, .inr 2, .inr 3] (va_runV (As := []) (rest := []) ⟨hx, hb, hml, hown, hts⟩ (kX2_empty l D cI cJ cD q hq N Tn Tn40 hc) (cwV 0 hts gX8_loadDeBruijn_X2_empty rfl rfl rfl (by decide +kernel) ⟨(Nat.le_of_ble_eq_true rfl), (Nat.le_of_ble_eq_true rfl)⟩) ⟨gP_blind, va_recv hE.1 hP (ci := 2) (q0 := 1) rfl rfl, fun U hU hW => ⟨rfl, by rw [hU]; exact hP.sub (ws' := (w_1 q cI cJ cD Tn)) [1] rfl, gEv.warm hW hE⟩⟩ rfl rfl hl.1 rfl (lv_room (Nat.le_of_ble_eq_true rfl)) dX8_loadDeBruijn_40 ⟨Nat.zero_le _, Nat.zero_le _⟩) hP hS (gSub rfl) rfl rfl rfl rfl rfl (fun H locs hP hS => ?_)
    refine lv_aload_n hx hb dX8_loadDeBruijn_43 rfl (lv_at hl 0 rfl) ?_
    refine va_get (D := D) (ci := 6) (v := .ref (q 13)) (C := RX8) (T := TX8) (N := 6) hx hb hts huX8 hown hE.1 hP 0 rfl rfl 5 (by decide) hk47 (fun _ h9 => h9) rfl dX8_loadDeBruijn_44 ?_
    refine lv_iload_n hx hb dX8_loadDeBruijn_47 rfl (lv_at hl 1 rfl) ?_
    refine lv_iload_n hx hb dX8_loadDeBruijn_48 rfl (lv_at hl 2 rfl) ?_
    obtain ⟨⟨Wg49, Wz49, Ww49, Wr49⟩, hc, hf⟩ := bn_some hf
    try dsimp only at hf
    refine g_call0 (ws' := (w_0_1_2_13 q cI cJ cD Tn40 Ta Wg49 Wz49 Ww49 Wr49)) (st1 := []) hq [0, 1, 2, 13] [13] [.inr 0, .inr 1, .inr 2, .inl 0] (va_runV (As := [.int p1, .int p2]) (rest := []) ⟨hx, hb, hml, hown, hts⟩ (kX3_begin l D cI cJ cD q hq N Wg Wz Ww Wr p1 p2 Wg49 Wz49 Ww49 Wr49 hc) (cwV 2 hts gX8_loadDeBruijn_X3_begin rfl rfl rfl (by decide +kernel) ⟨(Nat.le_of_ble_eq_true rfl), (Nat.le_of_ble_eq_true rfl)⟩) ⟨gP_blind, va_recv hE.1 hP (ci := 3) (q0 := 3) rfl rfl, fun U hU hW => ⟨rfl, by rw [hU]; exact hP.sub (ws' := (w_13 q cI cJ cD Wg Wz Ww Wr)) [3] rfl, gEv.warm hW hE⟩⟩ rfl rfl hl.1 rfl (lv_room (Nat.le_of_ble_eq_true rfl)) dX8_loadDeBruijn_49 ⟨Nat.zero_le _, Nat.zero_le _⟩) hP hS (gSub rfl) rfl rfl rfl rfl rfl (fun H locs hP hS => ?_)
    refine lv_iconst (v := (1 : Int32)) hx hb dX8_loadDeBruijn_52 (by decide) ?_
    refine lv_istore_n (lv' := [(3, .int (1 : Int32)), (0, .ref (q 0)), (1, .int p1), (2, .int p2)]) hx hb dX8_loadDeBruijn_53 rfl hl (by decide) rfl (fun ls hl => ?_)
    refine lv_iconst (v := (0 : Int32)) hx hb dX8_loadDeBruijn_54 (by decide) ?_
    refine lv_istore (lv' := [(4, .int (0 : Int32)), (3, .int (1 : Int32)), (0, .ref (q 0)), (1, .int p1), (2, .int p2)]) hx hb dX8_loadDeBruijn_55 hl (by decide) rfl (fun ls hl => ?_)
    exact K57 N Tn40 Ta Wg49 Wz49 Ww49 Wr49 (1 : Int32) (0 : Int32) hf _ _ hP hS _ (lv_sub hl [2, 1, 0] rfl)
  · have hf := (if_neg c_3).symm.trans hf
    exact nomatch hf
set_option maxHeartbeats 4000000 in
set_option maxRecDepth 100000 in
theorem kX8_loadDeBruijnx (l : Launch) (hlt : l.stackTraces = false) (D : va_G) (cI cJ cD : ClassId) (sa : Nat → Nat) (q : Nat → Nat) (hq : gInj q) (N : Nat) (Tn : Int32) (Ta : (Nat → Int32)) (Wg : Int32) (Wz : Int32) (Ww : Int32) (Wr : Int32) (p1 : Int32) (p2 : Int32) (e0 : Nat) (Tn9 : Int32) (Ta9 : (Nat → Int32)) (Wg9 : Int32) (Wz9 : Int32) (Ww9 : Int32) (Wr9 : Int32) (hf : fX8_loadDeBruijn N Tn Ta Wg Wz Ww Wr p1 p2 = some (.inl (e0, Tn9, Ta9, Wg9, Wz9, Ww9, Wr9))) : vx_Met l yX8_loadDeBruijn wsX8_loadDeBruijn rX8_loadDeBruijnx (gPx D cI cJ cD sa (gA q [0, 1, 2, 13]) [.ref (q 0), .int p1, .int p2] (w_0_1_2_13 q cI cJ cD Tn Ta Wg Wz Ww Wr)) (fun _ _ _ _ => False) (gX D (gEn e0) (w_0_1_2_13 q cI cJ cD Tn9 Ta9 Wg9 Wz9 Ww9 Wr9) (gA q [0, 1, 2, 13])) 1 6 (gA q [0, 1, 2, 13]) := by
  refine vx_ofW (cc := cX8_loadDeBruijn) (maxL := 5) (ret := (some .int)) (by decide +kernel) rfl ?_
  intro p e s m args below meth c s₁ B hml htab hv
  obtain ⟨rfl, hP, hE, hXe⟩ := hv
  have hx := B.exec
  have hb := B.bytes
  have hr := B.returns
  have hts := atoms_spec (ws := wsX8_loadDeBruijn) B.pre
  have hown : s.vm.findClass RX8 = some m.cls := findClass_of_methodNamed B.named
  have hlocks := B.notSynchronized
  have hS : va_S (gA q [0, 1, 2, 13]) s.heap s.heap [] := va_S.rf
  have hl := lv_entry ([.ref (q 0), .int p1, .int p2]) (n := 5) (Nat.le_of_ble_eq_true rfl)
  rw [lg_entry_eq]
  generalize (lg_sl ([.ref (q 0), .int p1, .int p2]) ++ List.replicate (5 - (lg_sl ([.ref (q 0), .int p1, .int p2])).length) Slot.unset).toArray = ls at hl ⊢
  have hl : lv_has ls 5 [(0, .ref (q 0)), (1, .int p1), (2, .int p2)] := hl
  have hk10 := hts (.fieldLink RX8 10 "LyndonText" "text" "LLyndonText$Letters;") (by decide +kernel)
  have hk47 := hts (.fieldLink RX8 47 "LyndonText" "walk" "LLyndonText$NecklaceWalk;") (by decide +kernel)
  have huX8 : ∀ w ∈ u_ws RX8 TX8 6, w ∈ wsX8_loadDeBruijn := by decide +kernel
  have J93 : ∀ (Tn : Int32) (Ta : (Nat → Int32)) (Wg : Int32) (Wz : Int32) (Ww : Int32) (Wr : Int32), fX8_loadDeBruijn_J93 N Tn Ta Wg Wz Ww Wr = some (.inl (e0, Tn9, Ta9, Wg9, Wz9, Ww9, Wr9)) → ∀ (H : Heap) (locs : List Loc), va_P D vwCl (w_0_1_2_13 q cI cJ cD Tn Ta Wg Wz Ww Wr) H → va_S (gA q [0, 1, 2, 13]) s.heap H locs → ∀ ls : Array Slot, lv_has ls 5 [(0, .ref (q 0))] → W p l e (headSpec wsX8_loadDeBruijn rX8_loadDeBruijnx).room s m ([.ref (q 0), .int p1, .int p2] : List Value).toArray below meth c H locs 0 0 (vx_MQ below (fun _ _ _ _ => False) (gX D (gEn e0) (w_0_1_2_13 q cI cJ cD Tn9 Ta9 Wg9 Wz9 Ww9 Wr9) (gA q [0, 1, 2, 13])) ([.ref (q 0), .int p1, .int p2] : List Value).toArray s 1 6 (gA q [0, 1, 2, 13])) (F0 m 93 ls []) := by
    intro Tn Ta Wg Wz Ww Wr hf H locs hP hS ls hl
    unfold fX8_loadDeBruijn_J93 at hf
    refine lv_aload_n hx hb dX8_loadDeBruijn_93 rfl (lv_at hl 0 rfl) ?_
    refine va_get (D := D) (ci := 6) (v := .ref (q 1)) (C := RX8) (T := TX8) (N := 6) hx hb hts huX8 hown hE.1 hP 0 rfl rfl 0 (by decide) hk10 (fun _ h9 => h9) rfl dX8_loadDeBruijn_94 ?_
    obtain ⟨r97, hc, hf⟩ := bn_some hf
    try dsimp only at hf
    refine g_call0 (ws' := (w_0_1_2_13 q cI cJ cD Tn Ta Wg Wz Ww Wr)) (st1 := [.int r97]) hq [0, 1, 2, 13] [1] [.inr 0, .inl 0, .inr 2, .inr 3] (va_runV (As := []) (rest := []) ⟨hx, hb, hml, hown, hts⟩ (kX2_count l D cI cJ cD q hq N Tn r97 hc) (cwV 0 hts gX8_loadDeBruijn_X2_count rfl rfl rfl (by decide +kernel) ⟨(Nat.le_of_ble_eq_true rfl), (Nat.le_of_ble_eq_true rfl)⟩) ⟨gP_blind, va_recv hE.1 hP (ci := 2) (q0 := 1) rfl rfl, fun U hU hW => ⟨rfl, by rw [hU]; exact hP.sub (ws' := (w_1 q cI cJ cD Tn)) [1] rfl, gEv.warm hW hE⟩⟩ rfl rfl hl.1 rfl (lv_room (Nat.le_of_ble_eq_true rfl)) dX8_loadDeBruijn_97 ⟨Nat.zero_le _, Nat.zero_le _⟩) hP hS (gSub rfl) rfl rfl rfl rfl rfl (fun H locs hP hS => ?_)
    exact nomatch hf
  have K57 : ∀ (n57 : Nat) (Tn : Int32) (Ta : (Nat → Int32)) (Wg : Int32) (Wz : Int32) (Ww : Int32) (Wr : Int32) (x3 : Int32) (x4 : Int32), fX8_loadDeBruijn_H57 N n57 Tn Ta Wg Wz Ww Wr x3 x4 = some (.inl (e0, Tn9, Ta9, Wg9, Wz9, Ww9, Wr9)) → ∀ (H : Heap) (locs : List Loc), va_P D vwCl (w_0_1_2_13 q cI cJ cD Tn Ta Wg Wz Ww Wr) H → va_S (gA q [0, 1, 2, 13]) s.heap H locs → ∀ ls : Array Slot, lv_has ls 5 [(0, .ref (q 0)), (3, .int x3), (4, .int x4)] → W p l e (headSpec wsX8_loadDeBruijn rX8_loadDeBruijnx).room s m ([.ref (q 0), .int p1, .int p2] : List Value).toArray below meth c H locs 0 0 (vx_MQ below (fun _ _ _ _ => False) (gX D (gEn e0) (w_0_1_2_13 q cI cJ cD Tn9 Ta9 Wg9 Wz9 Ww9 Wr9) (gA q [0, 1, 2, 13])) ([.ref (q 0), .int p1, .int p2] : List Value).toArray s 1 6 (gA q [0, 1, 2, 13])) (F0 m 57 ls []) := by
    intro n57
    induction n57 with
    | zero =>
      intro Tn Ta Wg Wz Ww Wr x3 x4 hf
      exact nomatch (show (none : Option ((Nat × Int32 × (Nat → Int32) × Int32 × Int32 × Int32 × Int32) ⊕ (Int32 × Int32 × (Nat → Int32) × Int32 × Int32 × Int32 × Int32))) = some (.inl (e0, Tn9, Ta9, Wg9, Wz9, Ww9, Wr9)) from hf)
    | succ n57 ih57 =>
      intro Tn Ta Wg Wz Ww Wr x3 x4 hf H locs hP hS ls hl
      have hf : fX8_loadDeBruijn_B57 N (fX8_loadDeBruijn_H57 N n57) Tn Ta Wg Wz Ww Wr x3 x4 = some (.inl (e0, Tn9, Ta9, Wg9, Wz9, Ww9, Wr9)) := hf
      unfold fX8_loadDeBruijn_B57 at hf
      refine lv_iload_n hx hb dX8_loadDeBruijn_57 rfl (lv_at hl 1 rfl) ?_
      refine lv_if_eq (tgt := 93) hx hb dX8_loadDeBruijn_58 (by decide) (fun c_1 => ?_) (fun c_1 => ?_)
      · have hf := (if_pos c_1).symm.trans hf
        exact J93 Tn Ta Wg Wz Ww Wr hf _ _ hP hS _ (lv_sub hl [0] rfl)
      · have hf := (if_neg c_1).symm.trans hf
        refine lv_iload hx hb dX8_loadDeBruijn_61 (lv_at hl 2 rfl) ?_
        refine lv_bipush (v := (64 : Int32)) hx hb dX8_loadDeBruijn_63 (by decide) ?_
        refine lv_icmp_ge (tgt := 93) hx hb dX8_loadDeBruijn_65 (by decide) (fun c_2 => ?_) (fun c_2 => ?_)
        · have hf := (if_pos c_2).symm.trans hf
          exact J93 Tn Ta Wg Wz Ww Wr hf _ _ hP hS _ (lv_sub hl [0] rfl)
        · have hf := (if_neg c_2).symm.trans hf
          refine lv_aload_n hx hb dX8_loadDeBruijn_68 rfl (lv_at hl 0 rfl) ?_
          refine lv_aload_n hx hb dX8_loadDeBruijn_69 rfl (lv_at hl 0 rfl) ?_
          refine va_get (D := D) (ci := 6) (v := .ref (q 13)) (C := RX8) (T := TX8) (N := 6) hx hb hts huX8 hown hE.1 hP 0 rfl rfl 5 (by decide) hk47 (fun _ h9 => h9) rfl dX8_loadDeBruijn_70 ?_
          obtain ⟨r73, hc, hf⟩ := bn_some hf
          try dsimp only at hf
          refine g_call0 (ws' := (w_0_1_2_13 q cI cJ cD Tn Ta Wg Wz Ww Wr)) (st1 := [.int r73, .ref (q 0)]) hq [0, 1, 2, 13] [13] [.inr 0, .inr 1, .inr 2, .inl 0] (va_runV (As := []) (rest := [.ref (q 0)]) ⟨hx, hb, hml, hown, hts⟩ (kX3_root l D cI cJ cD q hq N Wg Wz Ww Wr r73 hc) (cwV 0 hts gX8_loadDeBruijn_X3_root rfl rfl rfl (by decide +kernel) ⟨(Nat.le_of_ble_eq_true rfl), (Nat.le_of_ble_eq_true rfl)⟩) ⟨gP_blind, va_recv hE.1 hP (ci := 3) (q0 := 3) rfl rfl, fun U hU hW => ⟨rfl, by rw [hU]; exact hP.sub (ws' := (w_13 q cI cJ cD Wg Wz Ww Wr)) [3] rfl, gEv.warm hW hE⟩⟩ rfl rfl hl.1 rfl (lv_room (Nat.le_of_ble_eq_true rfl)) dX8_loadDeBruijn_73 ⟨Nat.zero_le _, Nat.zero_le _⟩) hP hS (gSub rfl) rfl rfl rfl rfl rfl (fun H locs hP hS => ?_)
          obtain ⟨⟨Tn76, Ta76⟩, hc, hf⟩ := bn_some hf
          try dsimp only at hf
          refine g_call0 (ws' := (w_0_1_2_13 q cI cJ cD Tn76 Ta76 Wg Wz Ww Wr)) (st1 := []) hq [0, 1, 2, 13] [0, 1, 2, 13] [.inl 0, .inl 1, .inl 2, .inl 3] (va_runV (As := [.int r73]) (rest := []) ⟨hx, hb, hml, hown, hts⟩ (kX8_pushFromWalk l D cI cJ cD q hq N Tn Ta Wg Wz Ww Wr r73 Tn76 Ta76 hc) (cwV 1 hts gX8_loadDeBruijn_X8_pushFromWalk rfl rfl rfl (by decide +kernel) ⟨(Nat.le_of_ble_eq_true rfl), (Nat.le_of_ble_eq_true rfl)⟩) ⟨gP_blind, va_recv hE.1 hP (ci := 6) (q0 := 0) rfl rfl, fun U hU hW => ⟨rfl, by rw [hU]; exact hP.sub (ws' := (w_0_1_2_13 q cI cJ cD Tn Ta Wg Wz Ww Wr)) [0, 1, 2, 3] rfl, gEv.warm hW hE⟩⟩ rfl rfl hl.1 rfl (lv_room (Nat.le_of_ble_eq_true rfl)) dX8_loadDeBruijn_76 ⟨Nat.zero_le _, Nat.zero_le _⟩) hP hS (gSub rfl) rfl rfl rfl rfl rfl (fun H locs hP hS => ?_)
          refine lv_aload_n hx hb dX8_loadDeBruijn_79 rfl (lv_at hl 0 rfl) ?_
          refine va_get (D := D) (ci := 6) (v := .ref (q 13)) (C := RX8) (T := TX8) (N := 6) hx hb hts huX8 hown hE.1 hP 0 rfl rfl 5 (by decide) hk47 (fun _ h9 => h9) rfl dX8_loadDeBruijn_80 ?_
          obtain ⟨⟨r83, Ww83, Wr83⟩, hc, hf⟩ := bn_some hf
          try dsimp only at hf
          refine g_call0 (ws' := (w_0_1_2_13 q cI cJ cD Tn76 Ta76 Wg Wz Ww83 Wr83)) (st1 := [.int r83]) hq [0, 1, 2, 13] [13] [.inr 0, .inr 1, .inr 2, .inl 0] (va_runV (As := []) (rest := []) ⟨hx, hb, hml, hown, hts⟩ (kX3_toNextNecklace l D cI cJ cD q hq N Wg Wz Ww Wr r83 Ww83 Wr83 hc) (cwV 0 hts gX8_loadDeBruijn_X3_toNextNecklace rfl rfl rfl (by decide +kernel) ⟨(Nat.le_of_ble_eq_true rfl), (Nat.le_of_ble_eq_true rfl)⟩) ⟨gP_blind, va_recv hE.1 hP (ci := 3) (q0 := 3) rfl rfl, fun U hU hW => ⟨rfl, by rw [hU]; exact hP.sub (ws' := (w_13 q cI cJ cD Wg Wz Ww Wr)) [3] rfl, gEv.warm hW hE⟩⟩ rfl rfl hl.1 rfl (lv_room (Nat.le_of_ble_eq_true rfl)) dX8_loadDeBruijn_83 ⟨Nat.zero_le _, Nat.zero_le _⟩) hP hS (gSub rfl) rfl rfl rfl rfl rfl (fun H locs hP hS => ?_)
          refine lv_istore_n (lv' := [(3, .int r83), (0, .ref (q 0)), (4, .int x4)]) hx hb dX8_loadDeBruijn_86 rfl hl (by decide) rfl (fun ls hl => ?_)
          refine lv_iinc (v := (x4 + 1)) (lv' := [(4, .int (x4 + 1)), (3, .int r83), (0, .ref (q 0))]) hx hb dX8_loadDeBruijn_87 hl (k := 2) rfl rfl (by decide) rfl (fun ls hl => ?_)
          refine lv_goto (tgt := 57) hx hb dX8_loadDeBruijn_90 (by decide) ?_
          exact ih57 Tn76 Ta76 Wg Wz Ww83 Wr83 r83 (x4 + 1) hf _ _ hP hS _ (lv_sub hl [2, 1, 0] rfl)
  unfold fX8_loadDeBruijn at hf
  refine lv_iload_n hx hb dX8_loadDeBruijn_0 rfl (lv_at hl 1 rfl) ?_
  refine lv_iconst (v := (1 : Int32)) hx hb dX8_loadDeBruijn_1 (by decide) ?_
  refine lv_bipush (v := (8 : Int32)) hx hb dX8_loadDeBruijn_2 (by decide) ?_
  rcases bx_some hf with ⟨e4, hc, hf⟩ | ⟨⟨⟩, hc, hf⟩
  · try dsimp only at hf
    refine g_callX (ws' := (w_0_1_2_13 q cI cJ cD Tn Ta Wg Wz Ww Wr)) hq [0, 1, 2, 13] [] [.inr 0, .inr 1, .inr 2, .inr 3] (vx_runS (As := [.int p1, .int (1 : Int32), .int (8 : Int32)]) (rest := []) ⟨hx, hb, hml, hown, hts⟩ (kX8_checkArgumentx l hlt D cI cJ cD sa q hq N p1 (1 : Int32) (8 : Int32) e4 hc) (va_cwS 3 hts gX8_loadDeBruijn_X8_checkArgument rfl rfl rfl (by decide +kernel) ⟨(Nat.le_of_ble_eq_true rfl), (Nat.le_of_ble_eq_true rfl)⟩) ⟨gPx_blind, fun U hU hW => ⟨rfl, by rw [hU]; exact hP.sub (ws' := (w_0none q cI cJ cD)) [] rfl, gEv.warm hW hE, gXe.go hW hS (gMono rfl) hXe hU⟩⟩ rfl rfl hl.1 rfl (lv_room (Nat.le_of_ble_eq_true rfl)) dX8_loadDeBruijn_4 ⟨(Nat.le_of_ble_eq_true rfl), (Nat.le_of_ble_eq_true rfl)⟩) hP hS (gSub rfl) rfl rfl rfl rfl (fun ce q9 H locs hP hS hce hcv hcl => ?_)
    cases hf
    exact vx_out (fun x9 hx9 => (htab x9 hx9).elim) hlocks hce hcv hcl (fun t ht hv => ⟨rfl, by rw [ht]; exact hP, hS.F ht⟩) hS.2.2 (Nat.le_of_ble_eq_true rfl) (Nat.le_of_ble_eq_true rfl)
  try dsimp only at hf
  refine g_call0 (ws' := (w_0_1_2_13 q cI cJ cD Tn Ta Wg Wz Ww Wr)) (st1 := []) hq [0, 1, 2, 13] [] [.inr 0, .inr 1, .inr 2, .inr 3] (va_runS (As := [.int p1, .int (1 : Int32), .int (8 : Int32)]) (rest := []) ⟨hx, hb, hml, hown, hts⟩ (kX8_checkArgument l D cI cJ cD q hq N p1 (1 : Int32) (8 : Int32) hc) (va_cwS 3 hts gX8_loadDeBruijn_X8_checkArgument rfl rfl rfl (by decide +kernel) ⟨(Nat.le_of_ble_eq_true rfl), (Nat.le_of_ble_eq_true rfl)⟩) ⟨gP_blind, fun U hU hW => ⟨rfl, by rw [hU]; exact hP.sub (ws' := (w_0none q cI cJ cD)) [] rfl, gEv.warm hW hE⟩⟩ rfl rfl hl.1 rfl (lv_room (Nat.le_of_ble_eq_true rfl)) dX8_loadDeBruijn_4 ⟨Nat.zero_le _, Nat.zero_le _⟩) hP hS (gSub rfl) rfl rfl rfl rfl rfl (fun H locs hP hS => ?_)
  refine lv_iload_n hx hb dX8_loadDeBruijn_7 rfl (lv_at hl 2 rfl) ?_
  refine lv_iconst (v := (1 : Int32)) hx hb dX8_loadDeBruijn_8 (by decide) ?_
  refine lv_bipush (v := (6 : Int32)) hx hb dX8_loadDeBruijn_9 (by decide) ?_
  rcases bx_some hf with ⟨e11, hc, hf⟩ | ⟨⟨⟩, hc, hf⟩
  · try dsimp only at hf
    refine g_callX (ws' := (w_0_1_2_13 q cI cJ cD Tn Ta Wg Wz Ww Wr)) hq [0, 1, 2, 13] [] [.inr 0, .inr 1, .inr 2, .inr 3] (vx_runS (As := [.int p2, .int (1 : Int32), .int (6 : Int32)]) (rest := []) ⟨hx, hb, hml, hown, hts⟩ (kX8_checkArgumentx l hlt D cI cJ cD sa q hq N p2 (1 : Int32) (6 : Int32) e11 hc) (va_cwS 3 hts gX8_loadDeBruijn_X8_checkArgument rfl rfl rfl (by decide +kernel) ⟨(Nat.le_of_ble_eq_true rfl), (Nat.le_of_ble_eq_true rfl)⟩) ⟨gPx_blind, fun U hU hW => ⟨rfl, by rw [hU]; exact hP.sub (ws' := (w_0none q cI cJ cD)) [] rfl, gEv.warm hW hE, gXe.go hW hS (gMono rfl) hXe hU⟩⟩ rfl rfl hl.1 rfl (lv_room (Nat.le_of_ble_eq_true rfl)) dX8_loadDeBruijn_11 ⟨(Nat.le_of_ble_eq_true rfl), (Nat.le_of_ble_eq_true rfl)⟩) hP hS (gSub rfl) rfl rfl rfl rfl (fun ce q9 H locs hP hS hce hcv hcl => ?_)
    cases hf
    exact vx_out (fun x9 hx9 => (htab x9 hx9).elim) hlocks hce hcv hcl (fun t ht hv => ⟨rfl, by rw [ht]; exact hP, hS.F ht⟩) hS.2.2 (Nat.le_of_ble_eq_true rfl) (Nat.le_of_ble_eq_true rfl)
  try dsimp only at hf
  refine g_call0 (ws' := (w_0_1_2_13 q cI cJ cD Tn Ta Wg Wz Ww Wr)) (st1 := []) hq [0, 1, 2, 13] [] [.inr 0, .inr 1, .inr 2, .inr 3] (va_runS (As := [.int p2, .int (1 : Int32), .int (6 : Int32)]) (rest := []) ⟨hx, hb, hml, hown, hts⟩ (kX8_checkArgument l D cI cJ cD q hq N p2 (1 : Int32) (6 : Int32) hc) (va_cwS 3 hts gX8_loadDeBruijn_X8_checkArgument rfl rfl rfl (by decide +kernel) ⟨(Nat.le_of_ble_eq_true rfl), (Nat.le_of_ble_eq_true rfl)⟩) ⟨gP_blind, fun U hU hW => ⟨rfl, by rw [hU]; exact hP.sub (ws' := (w_0none q cI cJ cD)) [] rfl, gEv.warm hW hE⟩⟩ rfl rfl hl.1 rfl (lv_room (Nat.le_of_ble_eq_true rfl)) dX8_loadDeBruijn_11 ⟨Nat.zero_le _, Nat.zero_le _⟩) hP hS (gSub rfl) rfl rfl rfl rfl rfl (fun H locs hP hS => ?_)
  refine lv_iload_n hx hb dX8_loadDeBruijn_14 rfl (lv_at hl 1 rfl) ?_
  refine lv_iload_n hx hb dX8_loadDeBruijn_15 rfl (lv_at hl 2 rfl) ?_
  obtain ⟨r16, hc, hf⟩ := bn_some hf
  try dsimp only at hf
  refine g_call0 (ws' := (w_0_1_2_13 q cI cJ cD Tn Ta Wg Wz Ww Wr)) (st1 := [.long r16]) hq [0, 1, 2, 13] [] [.inr 0, .inr 1, .inr 2, .inr 3] (va_runS (As := [.int p1, .int p2]) (rest := []) ⟨hx, hb, hml, hown, hts⟩ (kX4_power l D cI cJ cD q hq N p1 p2 r16 hc) (va_cwS 2 hts gX8_loadDeBruijn_X4_power rfl rfl rfl (by decide +kernel) ⟨(Nat.le_of_ble_eq_true rfl), (Nat.le_of_ble_eq_true rfl)⟩) ⟨gP_blind, fun U hU hW => ⟨rfl, by rw [hU]; exact hP.sub (ws' := (w_0none q cI cJ cD)) [] rfl, gEv.warm hW hE⟩⟩ rfl rfl hl.1 rfl (lv_room (Nat.le_of_ble_eq_true rfl)) dX8_loadDeBruijn_16 ⟨Nat.zero_le _, Nat.zero_le _⟩) hP hS (gSub rfl) rfl rfl rfl rfl rfl (fun H locs hP hS => ?_)
  refine lv_ldc2 (v := (64 : Int64)) hx hb hown (hts (.constantLong RX8 105 (64 : Int64)) (by decide +kernel)) dX8_loadDeBruijn_19 ?_
  refine W.lcmp hx hb dX8_loadDeBruijn_22 ?_
  refine lv_if_le (tgt := 36) hx hb dX8_loadDeBruijn_23 (by decide) (fun c_3 => ?_) (fun c_3 => ?_)
  · have hf := (if_pos c_3).symm.trans hf
    refine lv_aload_n hx hb dX8_loadDeBruijn_36 rfl (lv_at hl 0 rfl) ?_
    refine va_get (D := D) (ci := 6) (v := .ref (q 1)) (C := RX8) (T := TX8) (N := 6) hx hb hts huX8 hown hE.1 hP 0 rfl rfl 0 (by decide) hk10 (fun _ h9 => h9) rfl dX8_loadDeBruijn_37 ?_
    obtain ⟨Tn40, hc, hf⟩ := bn_some hf
    try dsimp only at hf
    refine g_call0 (ws' := (w_0_1_2_13 q cI cJ cD Tn40 Ta Wg Wz Ww Wr)) (st1 := []) hq [0, 1, 2, 13] [1] [.inr 0, .inl 0, .inr 2, .inr 3] (va_runV (As := []) (rest := []) ⟨hx, hb, hml, hown, hts⟩ (kX2_empty l D cI cJ cD q hq N Tn Tn40 hc) (cwV 0 hts gX8_loadDeBruijn_X2_empty rfl rfl rfl (by decide +kernel) ⟨(Nat.le_of_ble_eq_true rfl), (Nat.le_of_ble_eq_true rfl)⟩) ⟨gP_blind, va_recv hE.1 hP (ci := 2) (q0 := 1) rfl rfl, fun U hU hW => ⟨rfl, by rw [hU]; exact hP.sub (ws' := (w_1 q cI cJ cD Tn)) [1] rfl, gEv.warm hW hE⟩⟩ rfl rfl hl.1 rfl (lv_room (Nat.le_of_ble_eq_true rfl)) dX8_loadDeBruijn_40 ⟨Nat.zero_le _, Nat.zero_le _⟩) hP hS (gSub rfl) rfl rfl rfl rfl rfl (fun H locs hP hS => ?_)
    refine lv_aload_n hx hb dX8_loadDeBruijn_43 rfl (lv_at hl 0 rfl) ?_
    refine va_get (D := D) (ci := 6) (v := .ref (q 13)) (C := RX8) (T := TX8) (N := 6) hx hb hts huX8 hown hE.1 hP 0 rfl rfl 5 (by decide) hk47 (fun _ h9 => h9) rfl dX8_loadDeBruijn_44 ?_
    refine lv_iload_n hx hb dX8_loadDeBruijn_47 rfl (lv_at hl 1 rfl) ?_
    refine lv_iload_n hx hb dX8_loadDeBruijn_48 rfl (lv_at hl 2 rfl) ?_
    obtain ⟨⟨Wg49, Wz49, Ww49, Wr49⟩, hc, hf⟩ := bn_some hf
    try dsimp only at hf
    refine g_call0 (ws' := (w_0_1_2_13 q cI cJ cD Tn40 Ta Wg49 Wz49 Ww49 Wr49)) (st1 := []) hq [0, 1, 2, 13] [13] [.inr 0, .inr 1, .inr 2, .inl 0] (va_runV (As := [.int p1, .int p2]) (rest := []) ⟨hx, hb, hml, hown, hts⟩ (kX3_begin l D cI cJ cD q hq N Wg Wz Ww Wr p1 p2 Wg49 Wz49 Ww49 Wr49 hc) (cwV 2 hts gX8_loadDeBruijn_X3_begin rfl rfl rfl (by decide +kernel) ⟨(Nat.le_of_ble_eq_true rfl), (Nat.le_of_ble_eq_true rfl)⟩) ⟨gP_blind, va_recv hE.1 hP (ci := 3) (q0 := 3) rfl rfl, fun U hU hW => ⟨rfl, by rw [hU]; exact hP.sub (ws' := (w_13 q cI cJ cD Wg Wz Ww Wr)) [3] rfl, gEv.warm hW hE⟩⟩ rfl rfl hl.1 rfl (lv_room (Nat.le_of_ble_eq_true rfl)) dX8_loadDeBruijn_49 ⟨Nat.zero_le _, Nat.zero_le _⟩) hP hS (gSub rfl) rfl rfl rfl rfl rfl (fun H locs hP hS => ?_)
    refine lv_iconst (v := (1 : Int32)) hx hb dX8_loadDeBruijn_52 (by decide) ?_
    refine lv_istore_n (lv' := [(3, .int (1 : Int32)), (0, .ref (q 0)), (1, .int p1), (2, .int p2)]) hx hb dX8_loadDeBruijn_53 rfl hl (by decide) rfl (fun ls hl => ?_)
    refine lv_iconst (v := (0 : Int32)) hx hb dX8_loadDeBruijn_54 (by decide) ?_
    refine lv_istore (lv' := [(4, .int (0 : Int32)), (3, .int (1 : Int32)), (0, .ref (q 0)), (1, .int p1), (2, .int p2)]) hx hb dX8_loadDeBruijn_55 hl (by decide) rfl (fun ls hl => ?_)
    exact K57 N Tn40 Ta Wg49 Wz49 Ww49 Wr49 (1 : Int32) (0 : Int32) hf _ _ hP hS _ (lv_sub hl [2, 1, 0] rfl)
  · have hf := (if_neg c_3).symm.trans hf
    cases hf
    exact vx_throwS (own := RX8) (cls := "java/lang/IllegalArgumentException") (text := "the text would have more than 64 letters") (names := ["java/lang/RuntimeException", "java/lang/Exception"]) (ik := 107) (is := 109) (ic := 111) (sa := sa 109) (A := (gA q [0, 1, 2, 13])) hx hb hlt hown (by decide +kernel) (by decide +kernel) (hts (.classLink RX8 107 "java/lang/IllegalArgumentException") (by decide +kernel)) (hts (.initialized "java/lang/IllegalArgumentException") (by decide +kernel)) (hXe.1.1 (109, "the text would have more than 64 letters") (by decide +kernel)) (vx_hat (B := gB "java/lang/IllegalArgumentException") (fun w h => hts w (gw_X8_loadDeBruijn_26 w h)) (gwB_X8_loadDeBruijn_26) (gB_ok hXe.1 (cls := "java/lang/IllegalArgumentException") (by decide +kernel))) (gwg_X8_loadDeBruijn_26) hXe.2.1 hXe.2.2 hS (hl.1.trans hml.symm) dX8_loadDeBruijn_26 dX8_loadDeBruijn_29 dX8_loadDeBruijn_30 dX8_loadDeBruijn_32 dX8_loadDeBruijn_35 (fun x9 hx9 => (htab x9 hx9).elim) (Nat.le_of_ble_eq_true rfl) (Nat.le_of_ble_eq_true rfl) (Nat.le_of_ble_eq_true rfl) (Nat.le_of_ble_eq_true rfl) hlocks (fun t hv hz hk => ⟨rfl, hP.kept (fun k9 x9 hx9 => hk x9.1 ((hP k9 x9 hx9).lt)), ⟨Nat.le_trans hS.1 hz, fun a9 h1 hn => (hk a9 (Nat.lt_of_lt_of_le h1 hS.1)).trans (hS.2.1 a9 h1 hn)⟩⟩) hS.2.2 (Nat.le_of_ble_eq_true rfl) (Nat.le_of_ble_eq_true rfl)
set_option maxHeartbeats 4000000 in
set_option maxRecDepth 100000 in
theorem kX8_loadNecklace (l : Launch) (D : va_G) (cI cJ cD : ClassId) (q : Nat → Nat) (hq : gInj q) (N : Nat) (Tn : Int32) (Ta : (Nat → Int32)) (Wg : Int32) (Wz : Int32) (Ww : Int32) (Wr : Int32) (p1 : Int32) (p2 : Int32) (p3 : Int32) (r0 : Int32) (Tn9 : Int32) (Ta9 : (Nat → Int32)) (Wg9 : Int32) (Wz9 : Int32) (Ww9 : Int32) (Wr9 : Int32) (hf : fX8_loadNecklace N Tn Ta Wg Wz Ww Wr p1 p2 p3 = some (.inr (r0, Tn9, Ta9, Wg9, Wz9, Ww9, Wr9))) : Met l yX8_loadNecklace wsX8_loadNecklace rX8_loadNecklace (gP D cI cJ cD [.ref (q 0), .int p1, .int p2, .int p3] (w_0_1_2_13 q cI cJ cD Tn Ta Wg Wz Ww Wr)) (gQ D (some (.int r0)) (w_0_1_2_13 q cI cJ cD Tn9 Ta9 Wg9 Wz9 Ww9 Wr9) (gA q [0, 1, 2, 13])) 0 0 (gA q [0, 1, 2, 13]) := by
  refine Met.ofW (cc := cX8_loadNecklace) (maxL := 5) (ret := (some .int)) (by decide +kernel) rfl ?_
  intro p e s m args below meth c s₁ B hml hv
  obtain ⟨rfl, hP, hE⟩ := hv
  have hx := B.exec
  have hb := B.bytes
  have hr := B.returns
  have hts := atoms_spec (ws := wsX8_loadNecklace) B.pre
  have hown : s.vm.findClass RX8 = some m.cls := findClass_of_methodNamed B.named
  have hlocks := B.notSynchronized
  have hS : va_S (gA q [0, 1, 2, 13]) s.heap s.heap [] := va_S.rf
  have hl := lv_entry ([.ref (q 0), .int p1, .int p2, .int p3]) (n := 5) (Nat.le_of_ble_eq_true rfl)
  rw [lg_entry_eq]
  generalize (lg_sl ([.ref (q 0), .int p1, .int p2, .int p3]) ++ List.replicate (5 - (lg_sl ([.ref (q 0), .int p1, .int p2, .int p3])).length) Slot.unset).toArray = ls at hl ⊢
  have hl : lv_has ls 5 [(0, .ref (q 0)), (1, .int p1), (2, .int p2), (3, .int p3)] := hl
  have hk47 := hts (.fieldLink RX8 47 "LyndonText" "walk" "LLyndonText$NecklaceWalk;") (by decide +kernel)
  have hk10 := hts (.fieldLink RX8 10 "LyndonText" "text" "LLyndonText$Letters;") (by decide +kernel)
  have huX8 : ∀ w ∈ u_ws RX8 TX8 6, w ∈ wsX8_loadNecklace := by decide +kernel
  have J28 : ∀ (Tn : Int32) (Ta : (Nat → Int32)) (Wg : Int32) (Wz : Int32) (Ww : Int32) (Wr : Int32), fX8_loadNecklace_J28 N Tn Ta Wg Wz Ww Wr = some (.inr (r0, Tn9, Ta9, Wg9, Wz9, Ww9, Wr9)) → ∀ (H : Heap) (locs : List Loc), va_P D vwCl (w_0_1_2_13 q cI cJ cD Tn Ta Wg Wz Ww Wr) H → va_S (gA q [0, 1, 2, 13]) s.heap H locs → ∀ ls : Array Slot, lv_has ls 5 [] → W p l e (headSpec wsX8_loadNecklace rX8_loadNecklace).room s m ([.ref (q 0), .int p1, .int p2, .int p3] : List Value).toArray below meth c H locs 0 0 (MQ below (gQ D (some (.int r0)) (w_0_1_2_13 q cI cJ cD Tn9 Ta9 Wg9 Wz9 Ww9 Wr9) (gA q [0, 1, 2, 13])) ([.ref (q 0), .int p1, .int p2, .int p3] : List Value).toArray s 0 0 (gA q [0, 1, 2, 13])) (F0 m 28 ls []) := by
    intro Tn Ta Wg Wz Ww Wr hf H locs hP hS ls hl
    unfold fX8_loadNecklace_J28 at hf
    exact nomatch hf
  have J70 : ∀ (Tn : Int32) (Ta : (Nat → Int32)) (Wg : Int32) (Wz : Int32) (Ww : Int32) (Wr : Int32) (x2 : Int32), fX8_loadNecklace_J70 N Tn Ta Wg Wz Ww Wr x2 = some (.inr (r0, Tn9, Ta9, Wg9, Wz9, Ww9, Wr9)) → ∀ (H : Heap) (locs : List Loc), va_P D vwCl (w_0_1_2_13 q cI cJ cD Tn Ta Wg Wz Ww Wr) H → va_S (gA q [0, 1, 2, 13]) s.heap H locs → ∀ ls : Array Slot, lv_has ls 5 [(0, .ref (q 0)), (2, .int x2)] → W p l e (headSpec wsX8_loadNecklace rX8_loadNecklace).room s m ([.ref (q 0), .int p1, .int p2, .int p3] : List Value).toArray below meth c H locs 0 0 (MQ below (gQ D (some (.int r0)) (w_0_1_2_13 q cI cJ cD Tn9 Ta9 Wg9 Wz9 Ww9 Wr9) (gA q [0, 1, 2, 13])) ([.ref (q 0), .int p1, .int p2, .int p3] : List Value).toArray s 0 0 (gA q [0, 1, 2, 13])) (F0 m 70 ls []) := by
    intro Tn Ta Wg Wz Ww Wr x2 hf H locs hP hS ls hl
    unfold fX8_loadNecklace_J70 at hf
    refine lv_aload_n hx hb dX8_loadNecklace_70 rfl (lv_at hl 0 rfl) ?_
    refine va_get (D := D) (ci := 6) (v := .ref (q 1)) (C := RX8) (T := TX8) (N := 6) hx hb hts huX8 hown hE.1 hP 0 rfl rfl 0 (by decide) hk10 (fun _ h9 => h9) rfl dX8_loadNecklace_71 ?_
    obtain ⟨Tn74, hc, hf⟩ := bn_some hf
    try dsimp only at hf
    refine g_call0 (ws' := (w_0_1_2_13 q cI cJ cD Tn74 Ta Wg Wz Ww Wr)) (st1 := []) hq [0, 1, 2, 13] [1] [.inr 0, .inl 0, .inr 2, .inr 3] (va_runV (As := []) (rest := []) ⟨hx, hb, hml, hown, hts⟩ (kX2_empty l D cI cJ cD q hq N Tn Tn74 hc) (cwV 0 hts gX8_loadNecklace_X2_empty rfl rfl rfl (by decide +kernel) ⟨(Nat.le_of_ble_eq_true rfl), (Nat.le_of_ble_eq_true rfl)⟩) ⟨gP_blind, va_recv hE.1 hP (ci := 2) (q0 := 1) rfl rfl, fun U hU hW => ⟨rfl, by rw [hU]; exact hP.sub (ws' := (w_1 q cI cJ cD Tn)) [1] rfl, gEv.warm hW hE⟩⟩ rfl rfl hl.1 rfl (lv_room (Nat.le_of_ble_eq_true rfl)) dX8_loadNecklace_74 ⟨Nat.zero_le _, Nat.zero_le _⟩) hP hS (gSub rfl) rfl rfl rfl rfl rfl (fun H locs hP hS => ?_)
    refine lv_aload_n hx hb dX8_loadNecklace_77 rfl (lv_at hl 0 rfl) ?_
    refine lv_iload_n hx hb dX8_loadNecklace_78 rfl (lv_at hl 1 rfl) ?_
    obtain ⟨⟨Tn79, Ta79⟩, hc, hf⟩ := bn_some hf
    try dsimp only at hf
    refine g_call0 (ws' := (w_0_1_2_13 q cI cJ cD Tn79 Ta79 Wg Wz Ww Wr)) (st1 := []) hq [0, 1, 2, 13] [0, 1, 2, 13] [.inl 0, .inl 1, .inl 2, .inl 3] (va_runV (As := [.int x2]) (rest := []) ⟨hx, hb, hml, hown, hts⟩ (kX8_pushFromWalk l D cI cJ cD q hq N Tn74 Ta Wg Wz Ww Wr x2 Tn79 Ta79 hc) (cwV 1 hts gX8_loadNecklace_X8_pushFromWalk rfl rfl rfl (by decide +kernel) ⟨(Nat.le_of_ble_eq_true rfl), (Nat.le_of_ble_eq_true rfl)⟩) ⟨gP_blind, va_recv hE.1 hP (ci := 6) (q0 := 0) rfl rfl, fun U hU hW => ⟨rfl, by rw [hU]; exact hP.sub (ws' := (w_0_1_2_13 q cI cJ cD Tn74 Ta Wg Wz Ww Wr)) [0, 1, 2, 3] rfl, gEv.warm hW hE⟩⟩ rfl rfl hl.1 rfl (lv_room (Nat.le_of_ble_eq_true rfl)) dX8_loadNecklace_79 ⟨Nat.zero_le _, Nat.zero_le _⟩) hP hS (gSub rfl) rfl rfl rfl rfl rfl (fun H locs hP hS => ?_)
    refine lv_aload_n hx hb dX8_loadNecklace_82 rfl (lv_at hl 0 rfl) ?_
    refine va_get (D := D) (ci := 6) (v := .ref (q 13)) (C := RX8) (T := TX8) (N := 6) hx hb hts huX8 hown hE.1 hP 0 rfl rfl 5 (by decide) hk47 (fun _ h9 => h9) rfl dX8_loadNecklace_83 ?_
    obtain ⟨r86, hc, hf⟩ := bn_some hf
    try dsimp only at hf
    refine g_call0 (ws' := (w_0_1_2_13 q cI cJ cD Tn79 Ta79 Wg Wz Ww Wr)) (st1 := [.int r86]) hq [0, 1, 2, 13] [13] [.inr 0, .inr 1, .inr 2, .inl 0] (va_runV (As := []) (rest := []) ⟨hx, hb, hml, hown, hts⟩ (kX3_root l D cI cJ cD q hq N Wg Wz Ww Wr r86 hc) (cwV 0 hts gX8_loadNecklace_X3_root rfl rfl rfl (by decide +kernel) ⟨(Nat.le_of_ble_eq_true rfl), (Nat.le_of_ble_eq_true rfl)⟩) ⟨gP_blind, va_recv hE.1 hP (ci := 3) (q0 := 3) rfl rfl, fun U hU hW => ⟨rfl, by rw [hU]; exact hP.sub (ws' := (w_13 q cI cJ cD Wg Wz Ww Wr)) [3] rfl, gEv.warm hW hE⟩⟩ rfl rfl hl.1 rfl (lv_room (Nat.le_of_ble_eq_true rfl)) dX8_loadNecklace_86 ⟨Nat.zero_le _, Nat.zero_le _⟩) hP hS (gSub rfl) rfl rfl rfl rfl rfl (fun H locs hP hS => ?_)
    cases hf
    exact W.iret hx hb hr (fun t ht hW => ⟨⟨rfl, by rw [ht]; exact hP⟩, hS.F ht⟩) hS.2.2 dX8_loadNecklace_89
  have K50 : ∀ (n50 : Nat) (Tn : Int32) (Ta : (Nat → Int32)) (Wg : Int32) (Wz : Int32) (Ww : Int32) (Wr : Int32) (x2 : Int32) (x3 : Int32) (x4 : Int32), fX8_loadNecklace_H50 N n50 Tn Ta Wg Wz Ww Wr x2 x3 x4 = some (.inr (r0, Tn9, Ta9, Wg9, Wz9, Ww9, Wr9)) → ∀ (H : Heap) (locs : List Loc), va_P D vwCl (w_0_1_2_13 q cI cJ cD Tn Ta Wg Wz Ww Wr) H → va_S (gA q [0, 1, 2, 13]) s.heap H locs → ∀ ls : Array Slot, lv_has ls 5 [(0, .ref (q 0)), (2, .int x2), (3, .int x3), (4, .int x4)] → W p l e (headSpec wsX8_loadNecklace rX8_loadNecklace).room s m ([.ref (q 0), .int p1, .int p2, .int p3] : List Value).toArray below meth c H locs 0 0 (MQ below (gQ D (some (.int r0)) (w_0_1_2_13 q cI cJ cD Tn9 Ta9 Wg9 Wz9 Ww9 Wr9) (gA q [0, 1, 2, 13])) ([.ref (q 0), .int p1, .int p2, .int p3] : List Value).toArray s 0 0 (gA q [0, 1, 2, 13])) (F0 m 50 ls []) := by
    intro n50
    induction n50 with
    | zero =>
      intro Tn Ta Wg Wz Ww Wr x2 x3 x4 hf
      exact nomatch (show (none : Option ((Nat × Int32 × (Nat → Int32) × Int32 × Int32 × Int32 × Int32) ⊕ (Int32 × Int32 × (Nat → Int32) × Int32 × Int32 × Int32 × Int32))) = some (.inr (r0, Tn9, Ta9, Wg9, Wz9, Ww9, Wr9)) from hf)
    | succ n50 ih50 =>
      intro Tn Ta Wg Wz Ww Wr x2 x3 x4 hf H locs hP hS ls hl
      have hf : fX8_loadNecklace_B50 N (fX8_loadNecklace_H50 N n50) Tn Ta Wg Wz Ww Wr x2 x3 x4 = some (.inr (r0, Tn9, Ta9, Wg9, Wz9, Ww9, Wr9)) := hf
      unfold fX8_loadNecklace_B50 at hf
      refine lv_iload hx hb dX8_loadNecklace_50 (lv_at hl 3 rfl) ?_
      refine lv_iload_n hx hb dX8_loadNecklace_52 rfl (lv_at hl 2 rfl) ?_
      refine lv_icmp_ge (tgt := 70) hx hb dX8_loadNecklace_53 (by decide) (fun c_1 => ?_) (fun c_1 => ?_)
      · have hf := (if_pos c_1).symm.trans hf
        exact J70 Tn Ta Wg Wz Ww Wr x2 hf _ _ hP hS _ (lv_sub hl [0, 1] rfl)
      · have hf := (if_neg c_1).symm.trans hf
        refine lv_aload_n hx hb dX8_loadNecklace_56 rfl (lv_at hl 0 rfl) ?_
        refine va_get (D := D) (ci := 6) (v := .ref (q 13)) (C := RX8) (T := TX8) (N := 6) hx hb hts huX8 hown hE.1 hP 0 rfl rfl 5 (by decide) hk47 (fun _ h9 => h9) rfl dX8_loadNecklace_57 ?_
        obtain ⟨⟨r60, Ww60, Wr60⟩, hc, hf⟩ := bn_some hf
        try dsimp only at hf
        refine g_call0 (ws' := (w_0_1_2_13 q cI cJ cD Tn Ta Wg Wz Ww60 Wr60)) (st1 := [.int r60]) hq [0, 1, 2, 13] [13] [.inr 0, .inr 1, .inr 2, .inl 0] (va_runV (As := []) (rest := []) ⟨hx, hb, hml, hown, hts⟩ (kX3_toNextNecklace l D cI cJ cD q hq N Wg Wz Ww Wr r60 Ww60 Wr60 hc) (cwV 0 hts gX8_loadNecklace_X3_toNextNecklace rfl rfl rfl (by decide +kernel) ⟨(Nat.le_of_ble_eq_true rfl), (Nat.le_of_ble_eq_true rfl)⟩) ⟨gP_blind, va_recv hE.1 hP (ci := 3) (q0 := 3) rfl rfl, fun U hU hW => ⟨rfl, by rw [hU]; exact hP.sub (ws' := (w_13 q cI cJ cD Wg Wz Ww Wr)) [3] rfl, gEv.warm hW hE⟩⟩ rfl rfl hl.1 rfl (lv_room (Nat.le_of_ble_eq_true rfl)) dX8_loadNecklace_60 ⟨Nat.zero_le _, Nat.zero_le _⟩) hP hS (gSub rfl) rfl rfl rfl rfl rfl (fun H locs hP hS => ?_)
        refine lv_pop hx hb dX8_loadNecklace_63 rfl ?_
        refine lv_iinc (v := (x4 + 1)) (lv' := [(4, .int (x4 + 1)), (0, .ref (q 0)), (2, .int x2), (3, .int x3)]) hx hb dX8_loadNecklace_64 hl (k := 3) rfl rfl (by decide) rfl (fun ls hl => ?_)
        refine lv_goto (tgt := 50) hx hb dX8_loadNecklace_67 (by decide) ?_
        exact ih50 Tn Ta Wg Wz Ww60 Wr60 x2 x3 (x4 + 1) hf _ _ hP hS _ (lv_sub hl [1, 2, 3, 0] rfl)
  unfold fX8_loadNecklace at hf
  refine lv_iload_n hx hb dX8_loadNecklace_0 rfl (lv_at hl 1 rfl) ?_
  refine lv_iconst (v := (1 : Int32)) hx hb dX8_loadNecklace_1 (by decide) ?_
  refine lv_iconst (v := (4 : Int32)) hx hb dX8_loadNecklace_2 (by decide) ?_
  rcases bx_some hf with ⟨e3, hc, hf⟩ | ⟨⟨⟩, hc, hf⟩
  · exact nomatch hf
  try dsimp only at hf
  refine g_call0 (ws' := (w_0_1_2_13 q cI cJ cD Tn Ta Wg Wz Ww Wr)) (st1 := []) hq [0, 1, 2, 13] [] [.inr 0, .inr 1, .inr 2, .inr 3] (va_runS (As := [.int p1, .int (1 : Int32), .int (4 : Int32)]) (rest := []) ⟨hx, hb, hml, hown, hts⟩ (kX8_checkArgument l D cI cJ cD q hq N p1 (1 : Int32) (4 : Int32) hc) (va_cwS 3 hts gX8_loadNecklace_X8_checkArgument rfl rfl rfl (by decide +kernel) ⟨(Nat.le_of_ble_eq_true rfl), (Nat.le_of_ble_eq_true rfl)⟩) ⟨gP_blind, fun U hU hW => ⟨rfl, by rw [hU]; exact hP.sub (ws' := (w_0none q cI cJ cD)) [] rfl, gEv.warm hW hE⟩⟩ rfl rfl hl.1 rfl (lv_room (Nat.le_of_ble_eq_true rfl)) dX8_loadNecklace_3 ⟨Nat.zero_le _, Nat.zero_le _⟩) hP hS (gSub rfl) rfl rfl rfl rfl rfl (fun H locs hP hS => ?_)
  refine lv_iload_n hx hb dX8_loadNecklace_6 rfl (lv_at hl 2 rfl) ?_
  refine lv_iconst (v := (1 : Int32)) hx hb dX8_loadNecklace_7 (by decide) ?_
  refine lv_bipush (v := (8 : Int32)) hx hb dX8_loadNecklace_8 (by decide) ?_
  rcases bx_some hf with ⟨e10, hc, hf⟩ | ⟨⟨⟩, hc, hf⟩
  · exact nomatch hf
  try dsimp only at hf
  refine g_call0 (ws' := (w_0_1_2_13 q cI cJ cD Tn Ta Wg Wz Ww Wr)) (st1 := []) hq [0, 1, 2, 13] [] [.inr 0, .inr 1, .inr 2, .inr 3] (va_runS (As := [.int p2, .int (1 : Int32), .int (8 : Int32)]) (rest := []) ⟨hx, hb, hml, hown, hts⟩ (kX8_checkArgument l D cI cJ cD q hq N p2 (1 : Int32) (8 : Int32) hc) (va_cwS 3 hts gX8_loadNecklace_X8_checkArgument rfl rfl rfl (by decide +kernel) ⟨(Nat.le_of_ble_eq_true rfl), (Nat.le_of_ble_eq_true rfl)⟩) ⟨gP_blind, fun U hU hW => ⟨rfl, by rw [hU]; exact hP.sub (ws' := (w_0none q cI cJ cD)) [] rfl, gEv.warm hW hE⟩⟩ rfl rfl hl.1 rfl (lv_room (Nat.le_of_ble_eq_true rfl)) dX8_loadNecklace_10 ⟨Nat.zero_le _, Nat.zero_le _⟩) hP hS (gSub rfl) rfl rfl rfl rfl rfl (fun H locs hP hS => ?_)
  refine lv_iload_n hx hb dX8_loadNecklace_13 rfl (lv_at hl 3 rfl) ?_
  refine lv_if_lt (tgt := 28) hx hb dX8_loadNecklace_14 (by decide) (fun c_2 => ?_) (fun c_2 => ?_)
  · have hf := (if_pos c_2).symm.trans hf
    exact J28 Tn Ta Wg Wz Ww Wr hf _ _ hP hS _ (lv_sub hl [] rfl)
  · have hf := (if_neg c_2).symm.trans hf
    refine lv_iload_n hx hb dX8_loadNecklace_17 rfl (lv_at hl 3 rfl) ?_
    refine lv_i2l (v := (p3).toInt64) hx hb dX8_loadNecklace_18 rfl ?_
    refine lv_iload_n hx hb dX8_loadNecklace_19 rfl (lv_at hl 1 rfl) ?_
    refine lv_iload_n hx hb dX8_loadNecklace_20 rfl (lv_at hl 2 rfl) ?_
    obtain ⟨r21, hc, hf⟩ := bn_some hf
    try dsimp only at hf
    refine g_call0 (ws' := (w_0_1_2_13 q cI cJ cD Tn Ta Wg Wz Ww Wr)) (st1 := [.long r21, .long ((p3).toInt64)]) hq [0, 1, 2, 13] [] [.inr 0, .inr 1, .inr 2, .inr 3] (va_runS (As := [.int p1, .int p2]) (rest := [.long ((p3).toInt64)]) ⟨hx, hb, hml, hown, hts⟩ (kX4_necklaceCount l D cI cJ cD q hq N p1 p2 r21 hc) (va_cwS 2 hts gX8_loadNecklace_X4_necklaceCount rfl rfl rfl (by decide +kernel) ⟨(Nat.le_of_ble_eq_true rfl), (Nat.le_of_ble_eq_true rfl)⟩) ⟨gP_blind, fun U hU hW => ⟨rfl, by rw [hU]; exact hP.sub (ws' := (w_0none q cI cJ cD)) [] rfl, gEv.warm hW hE⟩⟩ rfl rfl hl.1 rfl (lv_room (Nat.le_of_ble_eq_true rfl)) dX8_loadNecklace_21 ⟨Nat.zero_le _, Nat.zero_le _⟩) hP hS (gSub rfl) rfl rfl rfl rfl rfl (fun H locs hP hS => ?_)
    refine W.lcmp hx hb dX8_loadNecklace_24 ?_
    refine lv_if_lt (tgt := 38) hx hb dX8_loadNecklace_25 (by decide) (fun c_3 => ?_) (fun c_3 => ?_)
    · have hf := (if_pos c_3).symm.trans hf
      refine lv_aload_n hx hb dX8_loadNecklace_38 rfl (lv_at hl 0 rfl) ?_
      refine va_get (D := D) (ci := 6) (v := .ref (q 13)) (C := RX8) (T := TX8) (N := 6) hx hb hts huX8 hown hE.1 hP 0 rfl rfl 5 (by decide) hk47 (fun _ h9 => h9) rfl dX8_loadNecklace_39 ?_
      refine lv_iload_n hx hb dX8_loadNecklace_42 rfl (lv_at hl 1 rfl) ?_
      refine lv_iload_n hx hb dX8_loadNecklace_43 rfl (lv_at hl 2 rfl) ?_
      obtain ⟨⟨Wg44, Wz44, Ww44, Wr44⟩, hc, hf⟩ := bn_some hf
      try dsimp only at hf
      refine g_call0 (ws' := (w_0_1_2_13 q cI cJ cD Tn Ta Wg44 Wz44 Ww44 Wr44)) (st1 := []) hq [0, 1, 2, 13] [13] [.inr 0, .inr 1, .inr 2, .inl 0] (va_runV (As := [.int p1, .int p2]) (rest := []) ⟨hx, hb, hml, hown, hts⟩ (kX3_begin l D cI cJ cD q hq N Wg Wz Ww Wr p1 p2 Wg44 Wz44 Ww44 Wr44 hc) (cwV 2 hts gX8_loadNecklace_X3_begin rfl rfl rfl (by decide +kernel) ⟨(Nat.le_of_ble_eq_true rfl), (Nat.le_of_ble_eq_true rfl)⟩) ⟨gP_blind, va_recv hE.1 hP (ci := 3) (q0 := 3) rfl rfl, fun U hU hW => ⟨rfl, by rw [hU]; exact hP.sub (ws' := (w_13 q cI cJ cD Wg Wz Ww Wr)) [3] rfl, gEv.warm hW hE⟩⟩ rfl rfl hl.1 rfl (lv_room (Nat.le_of_ble_eq_true rfl)) dX8_loadNecklace_44 ⟨Nat.zero_le _, Nat.zero_le _⟩) hP hS (gSub rfl) rfl rfl rfl rfl rfl (fun H locs hP hS => ?_)
      refine lv_iconst (v := (0 : Int32)) hx hb dX8_loadNecklace_47 (by decide) ?_
      refine lv_istore (lv' := [(4, .int (0 : Int32)), (0, .ref (q 0)), (1, .int p1), (2, .int p2), (3, .int p3)]) hx hb dX8_loadNecklace_48 hl (by decide) rfl (fun ls hl => ?_)
      exact K50 N Tn Ta Wg44 Wz44 Ww44 Wr44 p2 p3 (0 : Int32) hf _ _ hP hS _ (lv_sub hl [1, 3, 4, 0] rfl)
    · have hf := (if_neg c_3).symm.trans hf
      exact J28 Tn Ta Wg Wz Ww Wr hf _ _ hP hS _ (lv_sub hl [] rfl)
set_option maxHeartbeats 4000000 in
set_option maxRecDepth 100000 in
theorem kX8_loadNecklacex (l : Launch) (hlt : l.stackTraces = false) (D : va_G) (cI cJ cD : ClassId) (sa : Nat → Nat) (q : Nat → Nat) (hq : gInj q) (N : Nat) (Tn : Int32) (Ta : (Nat → Int32)) (Wg : Int32) (Wz : Int32) (Ww : Int32) (Wr : Int32) (p1 : Int32) (p2 : Int32) (p3 : Int32) (e0 : Nat) (Tn9 : Int32) (Ta9 : (Nat → Int32)) (Wg9 : Int32) (Wz9 : Int32) (Ww9 : Int32) (Wr9 : Int32) (hf : fX8_loadNecklace N Tn Ta Wg Wz Ww Wr p1 p2 p3 = some (.inl (e0, Tn9, Ta9, Wg9, Wz9, Ww9, Wr9))) : vx_Met l yX8_loadNecklace wsX8_loadNecklace rX8_loadNecklacex (gPx D cI cJ cD sa (gA q [0, 1, 2, 13]) [.ref (q 0), .int p1, .int p2, .int p3] (w_0_1_2_13 q cI cJ cD Tn Ta Wg Wz Ww Wr)) (fun _ _ _ _ => False) (gX D (gEn e0) (w_0_1_2_13 q cI cJ cD Tn9 Ta9 Wg9 Wz9 Ww9 Wr9) (gA q [0, 1, 2, 13])) 1 6 (gA q [0, 1, 2, 13]) := by
  refine vx_ofW (cc := cX8_loadNecklace) (maxL := 5) (ret := (some .int)) (by decide +kernel) rfl ?_
  intro p e s m args below meth c s₁ B hml htab hv
  obtain ⟨rfl, hP, hE, hXe⟩ := hv
  have hx := B.exec
  have hb := B.bytes
  have hr := B.returns
  have hts := atoms_spec (ws := wsX8_loadNecklace) B.pre
  have hown : s.vm.findClass RX8 = some m.cls := findClass_of_methodNamed B.named
  have hlocks := B.notSynchronized
  have hS : va_S (gA q [0, 1, 2, 13]) s.heap s.heap [] := va_S.rf
  have hl := lv_entry ([.ref (q 0), .int p1, .int p2, .int p3]) (n := 5) (Nat.le_of_ble_eq_true rfl)
  rw [lg_entry_eq]
  generalize (lg_sl ([.ref (q 0), .int p1, .int p2, .int p3]) ++ List.replicate (5 - (lg_sl ([.ref (q 0), .int p1, .int p2, .int p3])).length) Slot.unset).toArray = ls at hl ⊢
  have hl : lv_has ls 5 [(0, .ref (q 0)), (1, .int p1), (2, .int p2), (3, .int p3)] := hl
  have hk47 := hts (.fieldLink RX8 47 "LyndonText" "walk" "LLyndonText$NecklaceWalk;") (by decide +kernel)
  have hk10 := hts (.fieldLink RX8 10 "LyndonText" "text" "LLyndonText$Letters;") (by decide +kernel)
  have huX8 : ∀ w ∈ u_ws RX8 TX8 6, w ∈ wsX8_loadNecklace := by decide +kernel
  have J28 : ∀ (Tn : Int32) (Ta : (Nat → Int32)) (Wg : Int32) (Wz : Int32) (Ww : Int32) (Wr : Int32), fX8_loadNecklace_J28 N Tn Ta Wg Wz Ww Wr = some (.inl (e0, Tn9, Ta9, Wg9, Wz9, Ww9, Wr9)) → ∀ (H : Heap) (locs : List Loc), va_P D vwCl (w_0_1_2_13 q cI cJ cD Tn Ta Wg Wz Ww Wr) H → va_S (gA q [0, 1, 2, 13]) s.heap H locs → ∀ ls : Array Slot, lv_has ls 5 [] → W p l e (headSpec wsX8_loadNecklace rX8_loadNecklacex).room s m ([.ref (q 0), .int p1, .int p2, .int p3] : List Value).toArray below meth c H locs 0 0 (vx_MQ below (fun _ _ _ _ => False) (gX D (gEn e0) (w_0_1_2_13 q cI cJ cD Tn9 Ta9 Wg9 Wz9 Ww9 Wr9) (gA q [0, 1, 2, 13])) ([.ref (q 0), .int p1, .int p2, .int p3] : List Value).toArray s 1 6 (gA q [0, 1, 2, 13])) (F0 m 28 ls []) := by
    intro Tn Ta Wg Wz Ww Wr hf H locs hP hS ls hl
    unfold fX8_loadNecklace_J28 at hf
    cases hf
    exact vx_throwS (own := RX8) (cls := "java/lang/IllegalArgumentException") (text := "there is no necklace with this number") (names := ["java/lang/RuntimeException", "java/lang/Exception"]) (ik := 107) (is := 128) (ic := 111) (sa := sa 128) (A := (gA q [0, 1, 2, 13])) hx hb hlt hown (by decide +kernel) (by decide +kernel) (hts (.classLink RX8 107 "java/lang/IllegalArgumentException") (by decide +kernel)) (hts (.initialized "java/lang/IllegalArgumentException") (by decide +kernel)) (hXe.1.1 (128, "there is no necklace with this number") (by decide +kernel)) (vx_hat (B := gB "java/lang/IllegalArgumentException") (fun w h => hts w (gw_X8_loadNecklace_28 w h)) (gwB_X8_loadNecklace_28) (gB_ok hXe.1 (cls := "java/lang/IllegalArgumentException") (by decide +kernel))) (gwg_X8_loadNecklace_28) hXe.2.1 hXe.2.2 hS (hl.1.trans hml.symm) dX8_loadNecklace_28 dX8_loadNecklace_31 dX8_loadNecklace_32 dX8_loadNecklace_34 dX8_loadNecklace_37 (fun x9 hx9 => (htab x9 hx9).elim) (Nat.le_of_ble_eq_true rfl) (Nat.le_of_ble_eq_true rfl) (Nat.le_of_ble_eq_true rfl) (Nat.le_of_ble_eq_true rfl) hlocks (fun t hv hz hk => ⟨rfl, hP.kept (fun k9 x9 hx9 => hk x9.1 ((hP k9 x9 hx9).lt)), ⟨Nat.le_trans hS.1 hz, fun a9 h1 hn => (hk a9 (Nat.lt_of_lt_of_le h1 hS.1)).trans (hS.2.1 a9 h1 hn)⟩⟩) hS.2.2 (Nat.le_of_ble_eq_true rfl) (Nat.le_of_ble_eq_true rfl)
  have J70 : ∀ (Tn : Int32) (Ta : (Nat → Int32)) (Wg : Int32) (Wz : Int32) (Ww : Int32) (Wr : Int32) (x2 : Int32), fX8_loadNecklace_J70 N Tn Ta Wg Wz Ww Wr x2 = some (.inl (e0, Tn9, Ta9, Wg9, Wz9, Ww9, Wr9)) → ∀ (H : Heap) (locs : List Loc), va_P D vwCl (w_0_1_2_13 q cI cJ cD Tn Ta Wg Wz Ww Wr) H → va_S (gA q [0, 1, 2, 13]) s.heap H locs → ∀ ls : Array Slot, lv_has ls 5 [(0, .ref (q 0)), (2, .int x2)] → W p l e (headSpec wsX8_loadNecklace rX8_loadNecklacex).room s m ([.ref (q 0), .int p1, .int p2, .int p3] : List Value).toArray below meth c H locs 0 0 (vx_MQ below (fun _ _ _ _ => False) (gX D (gEn e0) (w_0_1_2_13 q cI cJ cD Tn9 Ta9 Wg9 Wz9 Ww9 Wr9) (gA q [0, 1, 2, 13])) ([.ref (q 0), .int p1, .int p2, .int p3] : List Value).toArray s 1 6 (gA q [0, 1, 2, 13])) (F0 m 70 ls []) := by
    intro Tn Ta Wg Wz Ww Wr x2 hf H locs hP hS ls hl
    unfold fX8_loadNecklace_J70 at hf
    refine lv_aload_n hx hb dX8_loadNecklace_70 rfl (lv_at hl 0 rfl) ?_
    refine va_get (D := D) (ci := 6) (v := .ref (q 1)) (C := RX8) (T := TX8) (N := 6) hx hb hts huX8 hown hE.1 hP 0 rfl rfl 0 (by decide) hk10 (fun _ h9 => h9) rfl dX8_loadNecklace_71 ?_
    obtain ⟨Tn74, hc, hf⟩ := bn_some hf
    try dsimp only at hf
    refine g_call0 (ws' := (w_0_1_2_13 q cI cJ cD Tn74 Ta Wg Wz Ww Wr)) (st1 := []) hq [0, 1, 2, 13] [1] [.inr 0, .inl 0, .inr 2, .inr 3] (va_runV (As := []) (rest := []) ⟨hx, hb, hml, hown, hts⟩ (kX2_empty l D cI cJ cD q hq N Tn Tn74 hc) (cwV 0 hts gX8_loadNecklace_X2_empty rfl rfl rfl (by decide +kernel) ⟨(Nat.le_of_ble_eq_true rfl), (Nat.le_of_ble_eq_true rfl)⟩) ⟨gP_blind, va_recv hE.1 hP (ci := 2) (q0 := 1) rfl rfl, fun U hU hW => ⟨rfl, by rw [hU]; exact hP.sub (ws' := (w_1 q cI cJ cD Tn)) [1] rfl, gEv.warm hW hE⟩⟩ rfl rfl hl.1 rfl (lv_room (Nat.le_of_ble_eq_true rfl)) dX8_loadNecklace_74 ⟨Nat.zero_le _, Nat.zero_le _⟩) hP hS (gSub rfl) rfl rfl rfl rfl rfl (fun H locs hP hS => ?_)
    refine lv_aload_n hx hb dX8_loadNecklace_77 rfl (lv_at hl 0 rfl) ?_
    refine lv_iload_n hx hb dX8_loadNecklace_78 rfl (lv_at hl 1 rfl) ?_
    obtain ⟨⟨Tn79, Ta79⟩, hc, hf⟩ := bn_some hf
    try dsimp only at hf
    refine g_call0 (ws' := (w_0_1_2_13 q cI cJ cD Tn79 Ta79 Wg Wz Ww Wr)) (st1 := []) hq [0, 1, 2, 13] [0, 1, 2, 13] [.inl 0, .inl 1, .inl 2, .inl 3] (va_runV (As := [.int x2]) (rest := []) ⟨hx, hb, hml, hown, hts⟩ (kX8_pushFromWalk l D cI cJ cD q hq N Tn74 Ta Wg Wz Ww Wr x2 Tn79 Ta79 hc) (cwV 1 hts gX8_loadNecklace_X8_pushFromWalk rfl rfl rfl (by decide +kernel) ⟨(Nat.le_of_ble_eq_true rfl), (Nat.le_of_ble_eq_true rfl)⟩) ⟨gP_blind, va_recv hE.1 hP (ci := 6) (q0 := 0) rfl rfl, fun U hU hW => ⟨rfl, by rw [hU]; exact hP.sub (ws' := (w_0_1_2_13 q cI cJ cD Tn74 Ta Wg Wz Ww Wr)) [0, 1, 2, 3] rfl, gEv.warm hW hE⟩⟩ rfl rfl hl.1 rfl (lv_room (Nat.le_of_ble_eq_true rfl)) dX8_loadNecklace_79 ⟨Nat.zero_le _, Nat.zero_le _⟩) hP hS (gSub rfl) rfl rfl rfl rfl rfl (fun H locs hP hS => ?_)
    refine lv_aload_n hx hb dX8_loadNecklace_82 rfl (lv_at hl 0 rfl) ?_
    refine va_get (D := D) (ci := 6) (v := .ref (q 13)) (C := RX8) (T := TX8) (N := 6) hx hb hts huX8 hown hE.1 hP 0 rfl rfl 5 (by decide) hk47 (fun _ h9 => h9) rfl dX8_loadNecklace_83 ?_
    obtain ⟨r86, hc, hf⟩ := bn_some hf
    try dsimp only at hf
    refine g_call0 (ws' := (w_0_1_2_13 q cI cJ cD Tn79 Ta79 Wg Wz Ww Wr)) (st1 := [.int r86]) hq [0, 1, 2, 13] [13] [.inr 0, .inr 1, .inr 2, .inl 0] (va_runV (As := []) (rest := []) ⟨hx, hb, hml, hown, hts⟩ (kX3_root l D cI cJ cD q hq N Wg Wz Ww Wr r86 hc) (cwV 0 hts gX8_loadNecklace_X3_root rfl rfl rfl (by decide +kernel) ⟨(Nat.le_of_ble_eq_true rfl), (Nat.le_of_ble_eq_true rfl)⟩) ⟨gP_blind, va_recv hE.1 hP (ci := 3) (q0 := 3) rfl rfl, fun U hU hW => ⟨rfl, by rw [hU]; exact hP.sub (ws' := (w_13 q cI cJ cD Wg Wz Ww Wr)) [3] rfl, gEv.warm hW hE⟩⟩ rfl rfl hl.1 rfl (lv_room (Nat.le_of_ble_eq_true rfl)) dX8_loadNecklace_86 ⟨Nat.zero_le _, Nat.zero_le _⟩) hP hS (gSub rfl) rfl rfl rfl rfl rfl (fun H locs hP hS => ?_)
    exact nomatch hf
  have K50 : ∀ (n50 : Nat) (Tn : Int32) (Ta : (Nat → Int32)) (Wg : Int32) (Wz : Int32) (Ww : Int32) (Wr : Int32) (x2 : Int32) (x3 : Int32) (x4 : Int32), fX8_loadNecklace_H50 N n50 Tn Ta Wg Wz Ww Wr x2 x3 x4 = some (.inl (e0, Tn9, Ta9, Wg9, Wz9, Ww9, Wr9)) → ∀ (H : Heap) (locs : List Loc), va_P D vwCl (w_0_1_2_13 q cI cJ cD Tn Ta Wg Wz Ww Wr) H → va_S (gA q [0, 1, 2, 13]) s.heap H locs → ∀ ls : Array Slot, lv_has ls 5 [(0, .ref (q 0)), (2, .int x2), (3, .int x3), (4, .int x4)] → W p l e (headSpec wsX8_loadNecklace rX8_loadNecklacex).room s m ([.ref (q 0), .int p1, .int p2, .int p3] : List Value).toArray below meth c H locs 0 0 (vx_MQ below (fun _ _ _ _ => False) (gX D (gEn e0) (w_0_1_2_13 q cI cJ cD Tn9 Ta9 Wg9 Wz9 Ww9 Wr9) (gA q [0, 1, 2, 13])) ([.ref (q 0), .int p1, .int p2, .int p3] : List Value).toArray s 1 6 (gA q [0, 1, 2, 13])) (F0 m 50 ls []) := by
    intro n50
    induction n50 with
    | zero =>
      intro Tn Ta Wg Wz Ww Wr x2 x3 x4 hf
      exact nomatch (show (none : Option ((Nat × Int32 × (Nat → Int32) × Int32 × Int32 × Int32 × Int32) ⊕ (Int32 × Int32 × (Nat → Int32) × Int32 × Int32 × Int32 × Int32))) = some (.inl (e0, Tn9, Ta9, Wg9, Wz9, Ww9, Wr9)) from hf)
    | succ n50 ih50 =>
      intro Tn Ta Wg Wz Ww Wr x2 x3 x4 hf H locs hP hS ls hl
      have hf : fX8_loadNecklace_B50 N (fX8_loadNecklace_H50 N n50) Tn Ta Wg Wz Ww Wr x2 x3 x4 = some (.inl (e0, Tn9, Ta9, Wg9, Wz9, Ww9, Wr9)) := hf
      unfold fX8_loadNecklace_B50 at hf
      refine lv_iload hx hb dX8_loadNecklace_50 (lv_at hl 3 rfl) ?_
      refine lv_iload_n hx hb dX8_loadNecklace_52 rfl (lv_at hl 2 rfl) ?_
      refine lv_icmp_ge (tgt := 70) hx hb dX8_loadNecklace_53 (by decide) (fun c_1 => ?_) (fun c_1 => ?_)
      · have hf := (if_pos c_1).symm.trans hf
        exact J70 Tn Ta Wg Wz Ww Wr x2 hf _ _ hP hS _ (lv_sub hl [0, 1] rfl)
      · have hf := (if_neg c_1).symm.trans hf
        refine lv_aload_n hx hb dX8_loadNecklace_56 rfl (lv_at hl 0 rfl) ?_
        refine va_get (D := D) (ci := 6) (v := .ref (q 13)) (C := RX8) (T := TX8) (N := 6) hx hb hts huX8 hown hE.1 hP 0 rfl rfl 5 (by decide) hk47 (fun _ h9 => h9) rfl dX8_loadNecklace_57 ?_
        obtain ⟨⟨r60, Ww60, Wr60⟩, hc, hf⟩ := bn_some hf
        try dsimp only at hf
        refine g_call0 (ws' := (w_0_1_2_13 q cI cJ cD Tn Ta Wg Wz Ww60 Wr60)) (st1 := [.int r60]) hq [0, 1, 2, 13] [13] [.inr 0, .inr 1, .inr 2, .inl 0] (va_runV (As := []) (rest := []) ⟨hx, hb, hml, hown, hts⟩ (kX3_toNextNecklace l D cI cJ cD q hq N Wg Wz Ww Wr r60 Ww60 Wr60 hc) (cwV 0 hts gX8_loadNecklace_X3_toNextNecklace rfl rfl rfl (by decide +kernel) ⟨(Nat.le_of_ble_eq_true rfl), (Nat.le_of_ble_eq_true rfl)⟩) ⟨gP_blind, va_recv hE.1 hP (ci := 3) (q0 := 3) rfl rfl, fun U hU hW => ⟨rfl, by rw [hU]; exact hP.sub (ws' := (w_13 q cI cJ cD Wg Wz Ww Wr)) [3] rfl, gEv.warm hW hE⟩⟩ rfl rfl hl.1 rfl (lv_room (Nat.le_of_ble_eq_true rfl)) dX8_loadNecklace_60 ⟨Nat.zero_le _, Nat.zero_le _⟩) hP hS (gSub rfl) rfl rfl rfl rfl rfl (fun H locs hP hS => ?_)
        refine lv_pop hx hb dX8_loadNecklace_63 rfl ?_
        refine lv_iinc (v := (x4 + 1)) (lv' := [(4, .int (x4 + 1)), (0, .ref (q 0)), (2, .int x2), (3, .int x3)]) hx hb dX8_loadNecklace_64 hl (k := 3) rfl rfl (by decide) rfl (fun ls hl => ?_)
        refine lv_goto (tgt := 50) hx hb dX8_loadNecklace_67 (by decide) ?_
        exact ih50 Tn Ta Wg Wz Ww60 Wr60 x2 x3 (x4 + 1) hf _ _ hP hS _ (lv_sub hl [1, 2, 3, 0] rfl)
  unfold fX8_loadNecklace at hf
  refine lv_iload_n hx hb dX8_loadNecklace_0 rfl (lv_at hl 1 rfl) ?_
  refine lv_iconst (v := (1 : Int32)) hx hb dX8_loadNecklace_1 (by decide) ?_
  refine lv_iconst (v := (4 : Int32)) hx hb dX8_loadNecklace_2 (by decide) ?_
  rcases bx_some hf with ⟨e3, hc, hf⟩ | ⟨⟨⟩, hc, hf⟩
  · try dsimp only at hf
    refine g_callX (ws' := (w_0_1_2_13 q cI cJ cD Tn Ta Wg Wz Ww Wr)) hq [0, 1, 2, 13] [] [.inr 0, .inr 1, .inr 2, .inr 3] (vx_runS (As := [.int p1, .int (1 : Int32), .int (4 : Int32)]) (rest := []) ⟨hx, hb, hml, hown, hts⟩ (kX8_checkArgumentx l hlt D cI cJ cD sa q hq N p1 (1 : Int32) (4 : Int32) e3 hc) (va_cwS 3 hts gX8_loadNecklace_X8_checkArgument rfl rfl rfl (by decide +kernel) ⟨(Nat.le_of_ble_eq_true rfl), (Nat.le_of_ble_eq_true rfl)⟩) ⟨gPx_blind, fun U hU hW => ⟨rfl, by rw [hU]; exact hP.sub (ws' := (w_0none q cI cJ cD)) [] rfl, gEv.warm hW hE, gXe.go hW hS (gMono rfl) hXe hU⟩⟩ rfl rfl hl.1 rfl (lv_room (Nat.le_of_ble_eq_true rfl)) dX8_loadNecklace_3 ⟨(Nat.le_of_ble_eq_true rfl), (Nat.le_of_ble_eq_true rfl)⟩) hP hS (gSub rfl) rfl rfl rfl rfl (fun ce q9 H locs hP hS hce hcv hcl => ?_)
    cases hf
    exact vx_out (fun x9 hx9 => (htab x9 hx9).elim) hlocks hce hcv hcl (fun t ht hv => ⟨rfl, by rw [ht]; exact hP, hS.F ht⟩) hS.2.2 (Nat.le_of_ble_eq_true rfl) (Nat.le_of_ble_eq_true rfl)
  try dsimp only at hf
  refine g_call0 (ws' := (w_0_1_2_13 q cI cJ cD Tn Ta Wg Wz Ww Wr)) (st1 := []) hq [0, 1, 2, 13] [] [.inr 0, .inr 1, .inr 2, .inr 3] (va_runS (As := [.int p1, .int (1 : Int32), .int (4 : Int32)]) (rest := []) ⟨hx, hb, hml, hown, hts⟩ (kX8_checkArgument l D cI cJ cD q hq N p1 (1 : Int32) (4 : Int32) hc) (va_cwS 3 hts gX8_loadNecklace_X8_checkArgument rfl rfl rfl (by decide +kernel) ⟨(Nat.le_of_ble_eq_true rfl), (Nat.le_of_ble_eq_true rfl)⟩) ⟨gP_blind, fun U hU hW => ⟨rfl, by rw [hU]; exact hP.sub (ws' := (w_0none q cI cJ cD)) [] rfl, gEv.warm hW hE⟩⟩ rfl rfl hl.1 rfl (lv_room (Nat.le_of_ble_eq_true rfl)) dX8_loadNecklace_3 ⟨Nat.zero_le _, Nat.zero_le _⟩) hP hS (gSub rfl) rfl rfl rfl rfl rfl (fun H locs hP hS => ?_)
  refine lv_iload_n hx hb dX8_loadNecklace_6 rfl (lv_at hl 2 rfl) ?_
  refine lv_iconst (v := (1 : Int32)) hx hb dX8_loadNecklace_7 (by decide) ?_
  refine lv_bipush (v := (8 : Int32)) hx hb dX8_loadNecklace_8 (by decide) ?_
  rcases bx_some hf with ⟨e10, hc, hf⟩ | ⟨⟨⟩, hc, hf⟩
  · try dsimp only at hf
    refine g_callX (ws' := (w_0_1_2_13 q cI cJ cD Tn Ta Wg Wz Ww Wr)) hq [0, 1, 2, 13] [] [.inr 0, .inr 1, .inr 2, .inr 3] (vx_runS (As := [.int p2, .int (1 : Int32), .int (8 : Int32)]) (rest := []) ⟨hx, hb, hml, hown, hts⟩ (kX8_checkArgumentx l hlt D cI cJ cD sa q hq N p2 (1 : Int32) (8 : Int32) e10 hc) (va_cwS 3 hts gX8_loadNecklace_X8_checkArgument rfl rfl rfl (by decide +kernel) ⟨(Nat.le_of_ble_eq_true rfl), (Nat.le_of_ble_eq_true rfl)⟩) ⟨gPx_blind, fun U hU hW => ⟨rfl, by rw [hU]; exact hP.sub (ws' := (w_0none q cI cJ cD)) [] rfl, gEv.warm hW hE, gXe.go hW hS (gMono rfl) hXe hU⟩⟩ rfl rfl hl.1 rfl (lv_room (Nat.le_of_ble_eq_true rfl)) dX8_loadNecklace_10 ⟨(Nat.le_of_ble_eq_true rfl), (Nat.le_of_ble_eq_true rfl)⟩) hP hS (gSub rfl) rfl rfl rfl rfl (fun ce q9 H locs hP hS hce hcv hcl => ?_)
    cases hf
    exact vx_out (fun x9 hx9 => (htab x9 hx9).elim) hlocks hce hcv hcl (fun t ht hv => ⟨rfl, by rw [ht]; exact hP, hS.F ht⟩) hS.2.2 (Nat.le_of_ble_eq_true rfl) (Nat.le_of_ble_eq_true rfl)
  try dsimp only at hf
  refine g_call0 (ws' := (w_0_1_2_13 q cI cJ cD Tn Ta Wg Wz Ww Wr)) (st1 := []) hq [0, 1, 2, 13] [] [.inr 0, .inr 1, .inr 2, .inr 3] (va_runS (As := [.int p2, .int (1 : Int32), .int (8 : Int32)]) (rest := []) ⟨hx, hb, hml, hown, hts⟩ (kX8_checkArgument l D cI cJ cD q hq N p2 (1 : Int32) (8 : Int32) hc) (va_cwS 3 hts gX8_loadNecklace_X8_checkArgument rfl rfl rfl (by decide +kernel) ⟨(Nat.le_of_ble_eq_true rfl), (Nat.le_of_ble_eq_true rfl)⟩) ⟨gP_blind, fun U hU hW => ⟨rfl, by rw [hU]; exact hP.sub (ws' := (w_0none q cI cJ cD)) [] rfl, gEv.warm hW hE⟩⟩ rfl rfl hl.1 rfl (lv_room (Nat.le_of_ble_eq_true rfl)) dX8_loadNecklace_10 ⟨Nat.zero_le _, Nat.zero_le _⟩) hP hS (gSub rfl) rfl rfl rfl rfl rfl (fun H locs hP hS => ?_)
  refine lv_iload_n hx hb dX8_loadNecklace_13 rfl (lv_at hl 3 rfl) ?_
  refine lv_if_lt (tgt := 28) hx hb dX8_loadNecklace_14 (by decide) (fun c_2 => ?_) (fun c_2 => ?_)
  · have hf := (if_pos c_2).symm.trans hf
    exact J28 Tn Ta Wg Wz Ww Wr hf _ _ hP hS _ (lv_sub hl [] rfl)
  · have hf := (if_neg c_2).symm.trans hf
    refine lv_iload_n hx hb dX8_loadNecklace_17 rfl (lv_at hl 3 rfl) ?_
    refine lv_i2l (v := (p3).toInt64) hx hb dX8_loadNecklace_18 rfl ?_
    refine lv_iload_n hx hb dX8_loadNecklace_19 rfl (lv_at hl 1 rfl) ?_
    refine lv_iload_n hx hb dX8_loadNecklace_20 rfl (lv_at hl 2 rfl) ?_
    obtain ⟨r21, hc, hf⟩ := bn_some hf
    try dsimp only at hf
    refine g_call0 (ws' := (w_0_1_2_13 q cI cJ cD Tn Ta Wg Wz Ww Wr)) (st1 := [.long r21, .long ((p3).toInt64)]) hq [0, 1, 2, 13] [] [.inr 0, .inr 1, .inr 2, .inr 3] (va_runS (As := [.int p1, .int p2]) (rest := [.long ((p3).toInt64)]) ⟨hx, hb, hml, hown, hts⟩ (kX4_necklaceCount l D cI cJ cD q hq N p1 p2 r21 hc) (va_cwS 2 hts gX8_loadNecklace_X4_necklaceCount rfl rfl rfl (by decide +kernel) ⟨(Nat.le_of_ble_eq_true rfl), (Nat.le_of_ble_eq_true rfl)⟩) ⟨gP_blind, fun U hU hW => ⟨rfl, by rw [hU]; exact hP.sub (ws' := (w_0none q cI cJ cD)) [] rfl, gEv.warm hW hE⟩⟩ rfl rfl hl.1 rfl (lv_room (Nat.le_of_ble_eq_true rfl)) dX8_loadNecklace_21 ⟨Nat.zero_le _, Nat.zero_le _⟩) hP hS (gSub rfl) rfl rfl rfl rfl rfl (fun H locs hP hS => ?_)
    refine W.lcmp hx hb dX8_loadNecklace_24 ?_
    refine lv_if_lt (tgt := 38) hx hb dX8_loadNecklace_25 (by decide) (fun c_3 => ?_) (fun c_3 => ?_)
    · have hf := (if_pos c_3).symm.trans hf
      refine lv_aload_n hx hb dX8_loadNecklace_38 rfl (lv_at hl 0 rfl) ?_
      refine va_get (D := D) (ci := 6) (v := .ref (q 13)) (C := RX8) (T := TX8) (N := 6) hx hb hts huX8 hown hE.1 hP 0 rfl rfl 5 (by decide) hk47 (fun _ h9 => h9) rfl dX8_loadNecklace_39 ?_
      refine lv_iload_n hx hb dX8_loadNecklace_42 rfl (lv_at hl 1 rfl) ?_
      refine lv_iload_n hx hb dX8_loadNecklace_43 rfl (lv_at hl 2 rfl) ?_
      obtain ⟨⟨Wg44, Wz44, Ww44, Wr44⟩, hc, hf⟩ := bn_some hf
      try dsimp only at hf
      refine g_call0 (ws' := (w_0_1_2_13 q cI cJ cD Tn Ta Wg44 Wz44 Ww44 Wr44)) (st1 := []) hq [0, 1, 2, 13] [13] [.inr 0, .inr 1, .inr 2, .inl 0] (va_runV (As := [.int p1, .int p2]) (rest := []) ⟨hx, hb, hml, hown, hts⟩ (kX3_begin l D cI cJ cD q hq N Wg Wz Ww Wr p1 p2 Wg44 Wz44 Ww44 Wr44 hc) (cwV 2 hts gX8_loadNecklace_X3_begin rfl rfl rfl (by decide +kernel) ⟨(Nat.le_of_ble_eq_true rfl), (Nat.le_of_ble_eq_true rfl)⟩) ⟨gP_blind, va_recv hE.1 hP (ci := 3) (q0 := 3) rfl rfl, fun U hU hW => ⟨rfl, by rw [hU]; exact hP.sub (ws' := (w_13 q cI cJ cD Wg Wz Ww Wr)) [3] rfl, gEv.warm hW hE⟩⟩ rfl rfl hl.1 rfl (lv_room (Nat.le_of_ble_eq_true rfl)) dX8_loadNecklace_44 ⟨Nat.zero_le _, Nat.zero_le _⟩) hP hS (gSub rfl) rfl rfl rfl rfl rfl (fun H locs hP hS => ?_)
      refine lv_iconst (v := (0 : Int32)) hx hb dX8_loadNecklace_47 (by decide) ?_
      refine lv_istore (lv' := [(4, .int (0 : Int32)), (0, .ref (q 0)), (1, .int p1), (2, .int p2), (3, .int p3)]) hx hb dX8_loadNecklace_48 hl (by decide) rfl (fun ls hl => ?_)
      exact K50 N Tn Ta Wg44 Wz44 Ww44 Wr44 p2 p3 (0 : Int32) hf _ _ hP hS _ (lv_sub hl [1, 3, 4, 0] rfl)
    · have hf := (if_neg c_3).symm.trans hf
      exact J28 Tn Ta Wg Wz Ww Wr hf _ _ hP hS _ (lv_sub hl [] rfl)
set_option maxHeartbeats 4000000 in
set_option maxRecDepth 100000 in
theorem kX8_length (l : Launch) (D : va_G) (cI cJ cD : ClassId) (q : Nat → Nat) (hq : gInj q) (N : Nat) (Tn : Int32) (r0 : Int32) (hf : fX8_length N Tn = some r0) : Met l yX8_length wsX8_length rX8_length (gP D cI cJ cD [.ref (q 0)] (w_0_1 q cI cJ cD Tn)) (gQ D (some (.int r0)) (w_0_1 q cI cJ cD Tn) (gA q [0, 1])) 0 0 (gA q [0, 1]) := by
  refine Met.ofW (cc := cX8_length) (maxL := 1) (ret := (some .int)) (by decide +kernel) rfl ?_
  intro p e s m args below meth c s₁ B hml hv
  obtain ⟨rfl, hP, hE⟩ := hv
  have hx := B.exec
  have hb := B.bytes
  have hr := B.returns
  have hts := atoms_spec (ws := wsX8_length) B.pre
  have hown : s.vm.findClass RX8 = some m.cls := findClass_of_methodNamed B.named
  have hlocks := B.notSynchronized
  have hS : va_S (gA q [0, 1]) s.heap s.heap [] := va_S.rf
  have hl := lv_entry ([.ref (q 0)]) (n := 1) (Nat.le_of_ble_eq_true rfl)
  rw [lg_entry_eq]
  generalize (lg_sl ([.ref (q 0)]) ++ List.replicate (1 - (lg_sl ([.ref (q 0)])).length) Slot.unset).toArray = ls at hl ⊢
  have hl : lv_has ls 1 [(0, .ref (q 0))] := hl
  have hk10 := hts (.fieldLink RX8 10 "LyndonText" "text" "LLyndonText$Letters;") (by decide +kernel)
  have huX8 : ∀ w ∈ u_ws RX8 TX8 6, w ∈ wsX8_length := by decide +kernel
  unfold fX8_length at hf
  refine lv_aload_n hx hb dX8_length_0 rfl (lv_at hl 0 rfl) ?_
  refine va_get (D := D) (ci := 6) (v := .ref (q 1)) (C := RX8) (T := TX8) (N := 6) hx hb hts huX8 hown hE.1 hP 0 rfl rfl 0 (by decide) hk10 (fun _ h9 => h9) rfl dX8_length_1 ?_
  obtain ⟨r4, hc, hf⟩ := bn_some hf
  try dsimp only at hf
  refine g_call0 (ws' := (w_0_1 q cI cJ cD Tn)) (st1 := [.int r4]) hq [0, 1] [1] [.inr 0, .inl 0] (va_runV (As := []) (rest := []) ⟨hx, hb, hml, hown, hts⟩ (kX2_count l D cI cJ cD q hq N Tn r4 hc) (cwV 0 hts gX8_length_X2_count rfl rfl rfl (by decide +kernel) ⟨(Nat.le_of_ble_eq_true rfl), (Nat.le_of_ble_eq_true rfl)⟩) ⟨gP_blind, va_recv hE.1 hP (ci := 2) (q0 := 1) rfl rfl, fun U hU hW => ⟨rfl, by rw [hU]; exact hP.sub (ws' := (w_1 q cI cJ cD Tn)) [1] rfl, gEv.warm hW hE⟩⟩ rfl rfl hl.1 rfl (lv_room (Nat.le_of_ble_eq_true rfl)) dX8_length_4 ⟨Nat.zero_le _, Nat.zero_le _⟩) hP hS (gSub rfl) rfl rfl rfl rfl rfl (fun H locs hP hS => ?_)
  cases hf
  exact W.iret hx hb hr (fun t ht hW => ⟨⟨rfl, by rw [ht]; exact hP⟩, hS.F ht⟩) hS.2.2 dX8_length_7
set_option maxHeartbeats 4000000 in
set_option maxRecDepth 100000 in
theorem kX8_letterAt (l : Launch) (D : va_G) (cI cJ cD : ClassId) (q : Nat → Nat) (hq : gInj q) (N : Nat) (Tn : Int32) (Ta : (Nat → Int32)) (p1 : Int32) (r0 : Int32) (hf : fX8_letterAt N Tn Ta p1 = some (.inr r0)) : Met l yX8_letterAt wsX8_letterAt rX8_letterAt (gP D cI cJ cD [.ref (q 0), .int p1] (w_0_1_2 q cI cJ cD Tn Ta)) (gQ D (some (.int r0)) (w_0_1_2 q cI cJ cD Tn Ta) (gA q [0, 1, 2])) 0 0 (gA q [0, 1, 2]) := by
  refine Met.ofW (cc := cX8_letterAt) (maxL := 2) (ret := (some .int)) (by decide +kernel) rfl ?_
  intro p e s m args below meth c s₁ B hml hv
  obtain ⟨rfl, hP, hE⟩ := hv
  have hx := B.exec
  have hb := B.bytes
  have hr := B.returns
  have hts := atoms_spec (ws := wsX8_letterAt) B.pre
  have hown : s.vm.findClass RX8 = some m.cls := findClass_of_methodNamed B.named
  have hlocks := B.notSynchronized
  have hS : va_S (gA q [0, 1, 2]) s.heap s.heap [] := va_S.rf
  have hl := lv_entry ([.ref (q 0), .int p1]) (n := 2) (Nat.le_of_ble_eq_true rfl)
  rw [lg_entry_eq]
  generalize (lg_sl ([.ref (q 0), .int p1]) ++ List.replicate (2 - (lg_sl ([.ref (q 0), .int p1])).length) Slot.unset).toArray = ls at hl ⊢
  have hl : lv_has ls 2 [(0, .ref (q 0)), (1, .int p1)] := hl
  have hk10 := hts (.fieldLink RX8 10 "LyndonText" "text" "LLyndonText$Letters;") (by decide +kernel)
  have huX8 : ∀ w ∈ u_ws RX8 TX8 6, w ∈ wsX8_letterAt := by decide +kernel
  unfold fX8_letterAt at hf
  refine lv_iload_n hx hb dX8_letterAt_0 rfl (lv_at hl 1 rfl) ?_
  refine lv_aload_n hx hb dX8_letterAt_1 rfl (lv_at hl 0 rfl) ?_
  refine va_get (D := D) (ci := 6) (v := .ref (q 1)) (C := RX8) (T := TX8) (N := 6) hx hb hts huX8 hown hE.1 hP 0 rfl rfl 0 (by decide) hk10 (fun _ h9 => h9) rfl dX8_letterAt_2 ?_
  obtain ⟨r5, hc, hf⟩ := bn_some hf
  try dsimp only at hf
  refine g_call0 (ws' := (w_0_1_2 q cI cJ cD Tn Ta)) (st1 := [.int r5, .int p1]) hq [0, 1, 2] [1] [.inr 0, .inl 0, .inr 2] (va_runV (As := []) (rest := [.int p1]) ⟨hx, hb, hml, hown, hts⟩ (kX2_count l D cI cJ cD q hq N Tn r5 hc) (cwV 0 hts gX8_letterAt_X2_count rfl rfl rfl (by decide +kernel) ⟨(Nat.le_of_ble_eq_true rfl), (Nat.le_of_ble_eq_true rfl)⟩) ⟨gP_blind, va_recv hE.1 hP (ci := 2) (q0 := 1) rfl rfl, fun U hU hW => ⟨rfl, by rw [hU]; exact hP.sub (ws' := (w_1 q cI cJ cD Tn)) [1] rfl, gEv.warm hW hE⟩⟩ rfl rfl hl.1 rfl (lv_room (Nat.le_of_ble_eq_true rfl)) dX8_letterAt_5 ⟨Nat.zero_le _, Nat.zero_le _⟩) hP hS (gSub rfl) rfl rfl rfl rfl rfl (fun H locs hP hS => ?_)
  rcases bx_some hf with ⟨e8, hc, hf⟩ | ⟨⟨⟩, hc, hf⟩
  · exact nomatch hf
  try dsimp only at hf
  refine g_call0 (ws' := (w_0_1_2 q cI cJ cD Tn Ta)) (st1 := []) hq [0, 1, 2] [] [.inr 0, .inr 1, .inr 2] (va_runS (As := [.int p1, .int r5]) (rest := []) ⟨hx, hb, hml, hown, hts⟩ (kX8_checkIndex l D cI cJ cD q hq N p1 r5 hc) (va_cwS 2 hts gX8_letterAt_X8_checkIndex rfl rfl rfl (by decide +kernel) ⟨(Nat.le_of_ble_eq_true rfl), (Nat.le_of_ble_eq_true rfl)⟩) ⟨gP_blind, fun U hU hW => ⟨rfl, by rw [hU]; exact hP.sub (ws' := (w_0none q cI cJ cD)) [] rfl, gEv.warm hW hE⟩⟩ rfl rfl hl.1 rfl (lv_room (Nat.le_of_ble_eq_true rfl)) dX8_letterAt_8 ⟨Nat.zero_le _, Nat.zero_le _⟩) hP hS (gSub rfl) rfl rfl rfl rfl rfl (fun H locs hP hS => ?_)
  refine lv_aload_n hx hb dX8_letterAt_11 rfl (lv_at hl 0 rfl) ?_
  refine va_get (D := D) (ci := 6) (v := .ref (q 1)) (C := RX8) (T := TX8) (N := 6) hx hb hts huX8 hown hE.1 hP 0 rfl rfl 0 (by decide) hk10 (fun _ h9 => h9) rfl dX8_letterAt_12 ?_
  refine lv_iload_n hx hb dX8_letterAt_15 rfl (lv_at hl 1 rfl) ?_
  obtain ⟨r16, hc, hf⟩ := bn_some hf
  try dsimp only at hf
  refine g_call0 (ws' := (w_0_1_2 q cI cJ cD Tn Ta)) (st1 := [.int r16]) hq [0, 1, 2] [1, 2] [.inr 0, .inl 0, .inl 1] (va_runV (As := [.int p1]) (rest := []) ⟨hx, hb, hml, hown, hts⟩ (kX2_letter l D cI cJ cD q hq N Tn Ta p1 r16 hc) (cwV 1 hts gX8_letterAt_X2_letter rfl rfl rfl (by decide +kernel) ⟨(Nat.le_of_ble_eq_true rfl), (Nat.le_of_ble_eq_true rfl)⟩) ⟨gP_blind, va_recv hE.1 hP (ci := 2) (q0 := 1) rfl rfl, fun U hU hW => ⟨rfl, by rw [hU]; exact hP.sub (ws' := (w_1_2 q cI cJ cD Tn Ta)) [1, 2] rfl, gEv.warm hW hE⟩⟩ rfl rfl hl.1 rfl (lv_room (Nat.le_of_ble_eq_true rfl)) dX8_letterAt_16 ⟨Nat.zero_le _, Nat.zero_le _⟩) hP hS (gSub rfl) rfl rfl rfl rfl rfl (fun H locs hP hS => ?_)
  cases hf
  exact W.iret hx hb hr (fun t ht hW => ⟨⟨rfl, by rw [ht]; exact hP⟩, hS.F ht⟩) hS.2.2 dX8_letterAt_19
set_option maxHeartbeats 4000000 in
set_option maxRecDepth 100000 in
theorem kX8_letterAtx (l : Launch) (hlt : l.stackTraces = false) (D : va_G) (cI cJ cD : ClassId) (sa : Nat → Nat) (q : Nat → Nat) (hq : gInj q) (N : Nat) (Tn : Int32) (Ta : (Nat → Int32)) (p1 : Int32) (e0 : Nat) (hf : fX8_letterAt N Tn Ta p1 = some (.inl e0)) : vx_Met l yX8_letterAt wsX8_letterAt rX8_letterAtx (gPx D cI cJ cD sa (gA q [0, 1, 2]) [.ref (q 0), .int p1] (w_0_1_2 q cI cJ cD Tn Ta)) (fun _ _ _ _ => False) (gX D (gEn e0) (w_0_1_2 q cI cJ cD Tn Ta) (gA q [0, 1, 2])) 1 6 (gA q [0, 1, 2]) := by
  refine vx_ofW (cc := cX8_letterAt) (maxL := 2) (ret := (some .int)) (by decide +kernel) rfl ?_
  intro p e s m args below meth c s₁ B hml htab hv
  obtain ⟨rfl, hP, hE, hXe⟩ := hv
  have hx := B.exec
  have hb := B.bytes
  have hr := B.returns
  have hts := atoms_spec (ws := wsX8_letterAt) B.pre
  have hown : s.vm.findClass RX8 = some m.cls := findClass_of_methodNamed B.named
  have hlocks := B.notSynchronized
  have hS : va_S (gA q [0, 1, 2]) s.heap s.heap [] := va_S.rf
  have hl := lv_entry ([.ref (q 0), .int p1]) (n := 2) (Nat.le_of_ble_eq_true rfl)
  rw [lg_entry_eq]
  generalize (lg_sl ([.ref (q 0), .int p1]) ++ List.replicate (2 - (lg_sl ([.ref (q 0), .int p1])).length) Slot.unset).toArray = ls at hl ⊢
  have hl : lv_has ls 2 [(0, .ref (q 0)), (1, .int p1)] := hl
  have hk10 := hts (.fieldLink RX8 10 "LyndonText" "text" "LLyndonText$Letters;") (by decide +kernel)
  have huX8 : ∀ w ∈ u_ws RX8 TX8 6, w ∈ wsX8_letterAt := by decide +kernel
  unfold fX8_letterAt at hf
  refine lv_iload_n hx hb dX8_letterAt_0 rfl (lv_at hl 1 rfl) ?_
  refine lv_aload_n hx hb dX8_letterAt_1 rfl (lv_at hl 0 rfl) ?_
  refine va_get (D := D) (ci := 6) (v := .ref (q 1)) (C := RX8) (T := TX8) (N := 6) hx hb hts huX8 hown hE.1 hP 0 rfl rfl 0 (by decide) hk10 (fun _ h9 => h9) rfl dX8_letterAt_2 ?_
  obtain ⟨r5, hc, hf⟩ := bn_some hf
  try dsimp only at hf
  refine g_call0 (ws' := (w_0_1_2 q cI cJ cD Tn Ta)) (st1 := [.int r5, .int p1]) hq [0, 1, 2] [1] [.inr 0, .inl 0, .inr 2] (va_runV (As := []) (rest := [.int p1]) ⟨hx, hb, hml, hown, hts⟩ (kX2_count l D cI cJ cD q hq N Tn r5 hc) (cwV 0 hts gX8_letterAt_X2_count rfl rfl rfl (by decide +kernel) ⟨(Nat.le_of_ble_eq_true rfl), (Nat.le_of_ble_eq_true rfl)⟩) ⟨gP_blind, va_recv hE.1 hP (ci := 2) (q0 := 1) rfl rfl, fun U hU hW => ⟨rfl, by rw [hU]; exact hP.sub (ws' := (w_1 q cI cJ cD Tn)) [1] rfl, gEv.warm hW hE⟩⟩ rfl rfl hl.1 rfl (lv_room (Nat.le_of_ble_eq_true rfl)) dX8_letterAt_5 ⟨Nat.zero_le _, Nat.zero_le _⟩) hP hS (gSub rfl) rfl rfl rfl rfl rfl (fun H locs hP hS => ?_)
  rcases bx_some hf with ⟨e8, hc, hf⟩ | ⟨⟨⟩, hc, hf⟩
  · try dsimp only at hf
    refine g_callX (ws' := (w_0_1_2 q cI cJ cD Tn Ta)) hq [0, 1, 2] [] [.inr 0, .inr 1, .inr 2] (vx_runS (As := [.int p1, .int r5]) (rest := []) ⟨hx, hb, hml, hown, hts⟩ (kX8_checkIndexx l hlt D cI cJ cD sa q hq N p1 r5 e8 hc) (va_cwS 2 hts gX8_letterAt_X8_checkIndex rfl rfl rfl (by decide +kernel) ⟨(Nat.le_of_ble_eq_true rfl), (Nat.le_of_ble_eq_true rfl)⟩) ⟨gPx_blind, fun U hU hW => ⟨rfl, by rw [hU]; exact hP.sub (ws' := (w_0none q cI cJ cD)) [] rfl, gEv.warm hW hE, gXe.go hW hS (gMono rfl) hXe hU⟩⟩ rfl rfl hl.1 rfl (lv_room (Nat.le_of_ble_eq_true rfl)) dX8_letterAt_8 ⟨(Nat.le_of_ble_eq_true rfl), (Nat.le_of_ble_eq_true rfl)⟩) hP hS (gSub rfl) rfl rfl rfl rfl (fun ce q9 H locs hP hS hce hcv hcl => ?_)
    cases hf
    exact vx_out (fun x9 hx9 => (htab x9 hx9).elim) hlocks hce hcv hcl (fun t ht hv => ⟨rfl, by rw [ht]; exact hP, hS.F ht⟩) hS.2.2 (Nat.le_of_ble_eq_true rfl) (Nat.le_of_ble_eq_true rfl)
  try dsimp only at hf
  refine g_call0 (ws' := (w_0_1_2 q cI cJ cD Tn Ta)) (st1 := []) hq [0, 1, 2] [] [.inr 0, .inr 1, .inr 2] (va_runS (As := [.int p1, .int r5]) (rest := []) ⟨hx, hb, hml, hown, hts⟩ (kX8_checkIndex l D cI cJ cD q hq N p1 r5 hc) (va_cwS 2 hts gX8_letterAt_X8_checkIndex rfl rfl rfl (by decide +kernel) ⟨(Nat.le_of_ble_eq_true rfl), (Nat.le_of_ble_eq_true rfl)⟩) ⟨gP_blind, fun U hU hW => ⟨rfl, by rw [hU]; exact hP.sub (ws' := (w_0none q cI cJ cD)) [] rfl, gEv.warm hW hE⟩⟩ rfl rfl hl.1 rfl (lv_room (Nat.le_of_ble_eq_true rfl)) dX8_letterAt_8 ⟨Nat.zero_le _, Nat.zero_le _⟩) hP hS (gSub rfl) rfl rfl rfl rfl rfl (fun H locs hP hS => ?_)
  refine lv_aload_n hx hb dX8_letterAt_11 rfl (lv_at hl 0 rfl) ?_
  refine va_get (D := D) (ci := 6) (v := .ref (q 1)) (C := RX8) (T := TX8) (N := 6) hx hb hts huX8 hown hE.1 hP 0 rfl rfl 0 (by decide) hk10 (fun _ h9 => h9) rfl dX8_letterAt_12 ?_
  refine lv_iload_n hx hb dX8_letterAt_15 rfl (lv_at hl 1 rfl) ?_
  obtain ⟨r16, hc, hf⟩ := bn_some hf
  try dsimp only at hf
  refine g_call0 (ws' := (w_0_1_2 q cI cJ cD Tn Ta)) (st1 := [.int r16]) hq [0, 1, 2] [1, 2] [.inr 0, .inl 0, .inl 1] (va_runV (As := [.int p1]) (rest := []) ⟨hx, hb, hml, hown, hts⟩ (kX2_letter l D cI cJ cD q hq N Tn Ta p1 r16 hc) (cwV 1 hts gX8_letterAt_X2_letter rfl rfl rfl (by decide +kernel) ⟨(Nat.le_of_ble_eq_true rfl), (Nat.le_of_ble_eq_true rfl)⟩) ⟨gP_blind, va_recv hE.1 hP (ci := 2) (q0 := 1) rfl rfl, fun U hU hW => ⟨rfl, by rw [hU]; exact hP.sub (ws' := (w_1_2 q cI cJ cD Tn Ta)) [1, 2] rfl, gEv.warm hW hE⟩⟩ rfl rfl hl.1 rfl (lv_room (Nat.le_of_ble_eq_true rfl)) dX8_letterAt_16 ⟨Nat.zero_le _, Nat.zero_le _⟩) hP hS (gSub rfl) rfl rfl rfl rfl rfl (fun H locs hP hS => ?_)
  exact nomatch hf
set_option maxHeartbeats 4000000 in
set_option maxRecDepth 100000 in
theorem kX8_compare (l : Launch) (D : va_G) (cI cJ cD : ClassId) (q : Nat → Nat) (hq : gInj q) (N : Nat) (Tn : Int32) (Ta : (Nat → Int32)) (p1 : Int32) (p2 : Int32) (p3 : Int32) (p4 : Int32) (r0 : Int32) (hf : fX8_compare N Tn Ta p1 p2 p3 p4 = some (.inr r0)) : Met l yX8_compare wsX8_compare rX8_compare (gP D cI cJ cD [.ref (q 0), .int p1, .int p2, .int p3, .int p4] (w_0_1_2 q cI cJ cD Tn Ta)) (gQ D (some (.int r0)) (w_0_1_2 q cI cJ cD Tn Ta) (gA q [0, 1, 2])) 0 0 (gA q [0, 1, 2]) := by
  refine Met.ofW (cc := cX8_compare) (maxL := 7) (ret := (some .int)) (by decide +kernel) rfl ?_
  intro p e s m args below meth c s₁ B hml hv
  obtain ⟨rfl, hP, hE⟩ := hv
  have hx := B.exec
  have hb := B.bytes
  have hr := B.returns
  have hts := atoms_spec (ws := wsX8_compare) B.pre
  have hown : s.vm.findClass RX8 = some m.cls := findClass_of_methodNamed B.named
  have hlocks := B.notSynchronized
  have hS : va_S (gA q [0, 1, 2]) s.heap s.heap [] := va_S.rf
  have hl := lv_entry ([.ref (q 0), .int p1, .int p2, .int p3, .int p4]) (n := 7) (Nat.le_of_ble_eq_true rfl)
  rw [lg_entry_eq]
  generalize (lg_sl ([.ref (q 0), .int p1, .int p2, .int p3, .int p4]) ++ List.replicate (7 - (lg_sl ([.ref (q 0), .int p1, .int p2, .int p3, .int p4])).length) Slot.unset).toArray = ls at hl ⊢
  have hl : lv_has ls 7 [(0, .ref (q 0)), (1, .int p1), (2, .int p2), (3, .int p3), (4, .int p4)] := hl
  have hk10 := hts (.fieldLink RX8 10 "LyndonText" "text" "LLyndonText$Letters;") (by decide +kernel)
  have huX8 : ∀ w ∈ u_ws RX8 TX8 6, w ∈ wsX8_compare := by decide +kernel
  unfold fX8_compare at hf
  refine lv_aload_n hx hb dX8_compare_0 rfl (lv_at hl 0 rfl) ?_
  refine lv_iload_n hx hb dX8_compare_1 rfl (lv_at hl 1 rfl) ?_
  refine lv_iload_n hx hb dX8_compare_2 rfl (lv_at hl 2 rfl) ?_
  rcases bx_some hf with ⟨e3, hc, hf⟩ | ⟨⟨⟩, hc, hf⟩
  · exact nomatch hf
  try dsimp only at hf
  refine g_call0 (ws' := (w_0_1_2 q cI cJ cD Tn Ta)) (st1 := []) hq [0, 1, 2] [0, 1] [.inl 0, .inl 1, .inr 2] (va_runV (As := [.int p1, .int p2]) (rest := []) ⟨hx, hb, hml, hown, hts⟩ (kX8_checkPart l D cI cJ cD q hq N Tn p1 p2 hc) (cwV 2 hts gX8_compare_X8_checkPart rfl rfl rfl (by decide +kernel) ⟨(Nat.le_of_ble_eq_true rfl), (Nat.le_of_ble_eq_true rfl)⟩) ⟨gP_blind, va_recv hE.1 hP (ci := 6) (q0 := 0) rfl rfl, fun U hU hW => ⟨rfl, by rw [hU]; exact hP.sub (ws' := (w_0_1 q cI cJ cD Tn)) [0, 1] rfl, gEv.warm hW hE⟩⟩ rfl rfl hl.1 rfl (lv_room (Nat.le_of_ble_eq_true rfl)) dX8_compare_3 ⟨Nat.zero_le _, Nat.zero_le _⟩) hP hS (gSub rfl) rfl rfl rfl rfl rfl (fun H locs hP hS => ?_)
  refine lv_aload_n hx hb dX8_compare_6 rfl (lv_at hl 0 rfl) ?_
  refine lv_iload_n hx hb dX8_compare_7 rfl (lv_at hl 3 rfl) ?_
  refine lv_iload hx hb dX8_compare_8 (lv_at hl 4 rfl) ?_
  rcases bx_some hf with ⟨e10, hc, hf⟩ | ⟨⟨⟩, hc, hf⟩
  · exact nomatch hf
  try dsimp only at hf
  refine g_call0 (ws' := (w_0_1_2 q cI cJ cD Tn Ta)) (st1 := []) hq [0, 1, 2] [0, 1] [.inl 0, .inl 1, .inr 2] (va_runV (As := [.int p3, .int p4]) (rest := []) ⟨hx, hb, hml, hown, hts⟩ (kX8_checkPart l D cI cJ cD q hq N Tn p3 p4 hc) (cwV 2 hts gX8_compare_X8_checkPart rfl rfl rfl (by decide +kernel) ⟨(Nat.le_of_ble_eq_true rfl), (Nat.le_of_ble_eq_true rfl)⟩) ⟨gP_blind, va_recv hE.1 hP (ci := 6) (q0 := 0) rfl rfl, fun U hU hW => ⟨rfl, by rw [hU]; exact hP.sub (ws' := (w_0_1 q cI cJ cD Tn)) [0, 1] rfl, gEv.warm hW hE⟩⟩ rfl rfl hl.1 rfl (lv_room (Nat.le_of_ble_eq_true rfl)) dX8_compare_10 ⟨Nat.zero_le _, Nat.zero_le _⟩) hP hS (gSub rfl) rfl rfl rfl rfl rfl (fun H locs hP hS => ?_)
  refine lv_iload_n hx hb dX8_compare_13 rfl (lv_at hl 2 rfl) ?_
  refine lv_iload_n hx hb dX8_compare_14 rfl (lv_at hl 1 rfl) ?_
  refine lv_isub hx hb dX8_compare_15 ?_
  refine lv_iload hx hb dX8_compare_16 (lv_at hl 4 rfl) ?_
  refine lv_iload_n hx hb dX8_compare_18 rfl (lv_at hl 3 rfl) ?_
  refine lv_isub hx hb dX8_compare_19 ?_
  refine va_mmin hx hb (hml.trans hl.1.symm) hown (hts (.methodLink RX8 130 Lib.Math.min.name) (by decide +kernel)) (hts (.static Lib.Math.min.name) (by decide +kernel)) (hts (.initialized "java/lang/Math") (by decide +kernel)) (hts (.code Lib.Math.min.name Lib.Math.min.code 2 (some .int)) (by decide +kernel)) (Nat.le_of_ble_eq_true rfl) (Nat.le_of_ble_eq_true rfl) (Nat.zero_le _) (Nat.zero_le _) dX8_compare_20 ?_
  refine lv_istore (lv' := [(5, .int (if (p4 - p3) < (p2 - p1) then (p4 - p3) else (p2 - p1))), (0, .ref (q 0)), (1, .int p1), (2, .int p2), (3, .int p3), (4, .int p4)]) hx hb dX8_compare_23 hl (by decide) rfl (fun ls hl => ?_)
  refine lv_aload_n hx hb dX8_compare_25 rfl (lv_at hl 1 rfl) ?_
  refine va_get (D := D) (ci := 6) (v := .ref (q 1)) (C := RX8) (T := TX8) (N := 6) hx hb hts huX8 hown hE.1 hP 0 rfl rfl 0 (by decide) hk10 (fun _ h9 => h9) rfl dX8_compare_26 ?_
  refine lv_iload_n hx hb dX8_compare_29 rfl (lv_at hl 2 rfl) ?_
  refine lv_iload_n hx hb dX8_compare_30 rfl (lv_at hl 4 rfl) ?_
  obtain ⟨r31, hc, hf⟩ := bn_some hf
  try dsimp only at hf
  refine g_call0 (ws' := (w_0_1_2 q cI cJ cD Tn Ta)) (st1 := [.int r31]) hq [0, 1, 2] [1, 2] [.inr 0, .inl 0, .inl 1] (va_runV (As := [.int p1, .int p3]) (rest := []) ⟨hx, hb, hml, hown, hts⟩ (kX2_countSame l D cI cJ cD q hq N Tn Ta p1 p3 r31 hc) (cwV 2 hts gX8_compare_X2_countSame rfl rfl rfl (by decide +kernel) ⟨(Nat.le_of_ble_eq_true rfl), (Nat.le_of_ble_eq_true rfl)⟩) ⟨gP_blind, va_recv hE.1 hP (ci := 2) (q0 := 1) rfl rfl, fun U hU hW => ⟨rfl, by rw [hU]; exact hP.sub (ws' := (w_1_2 q cI cJ cD Tn Ta)) [1, 2] rfl, gEv.warm hW hE⟩⟩ rfl rfl hl.1 rfl (lv_room (Nat.le_of_ble_eq_true rfl)) dX8_compare_31 ⟨Nat.zero_le _, Nat.zero_le _⟩) hP hS (gSub rfl) rfl rfl rfl rfl rfl (fun H locs hP hS => ?_)
  refine lv_istore (lv' := [(6, .int r31), (5, .int (if (p4 - p3) < (p2 - p1) then (p4 - p3) else (p2 - p1))), (0, .ref (q 0)), (1, .int p1), (2, .int p2), (3, .int p3), (4, .int p4)]) hx hb dX8_compare_34 hl (by decide) rfl (fun ls hl => ?_)
  refine lv_iload hx hb dX8_compare_36 (lv_at hl 0 rfl) ?_
  refine lv_iload hx hb dX8_compare_38 (lv_at hl 1 rfl) ?_
  refine lv_icmp_ge (tgt := 69) hx hb dX8_compare_40 (by decide) (fun c_1 => ?_) (fun c_1 => ?_)
  · have hf := (if_pos c_1).symm.trans hf
    refine lv_iload_n hx hb dX8_compare_69 rfl (lv_at hl 4 rfl) ?_
    refine lv_iload_n hx hb dX8_compare_70 rfl (lv_at hl 3 rfl) ?_
    refine lv_isub hx hb dX8_compare_71 ?_
    refine lv_iload hx hb dX8_compare_72 (lv_at hl 6 rfl) ?_
    refine lv_iload_n hx hb dX8_compare_74 rfl (lv_at hl 5 rfl) ?_
    refine lv_isub hx hb dX8_compare_75 ?_
    obtain ⟨r76, hc, hf⟩ := bn_some hf
    try dsimp only at hf
    refine g_call0 (ws' := (w_0_1_2 q cI cJ cD Tn Ta)) (st1 := [.int r76]) hq [0, 1, 2] [] [.inr 0, .inr 1, .inr 2] (va_runS (As := [.int (p2 - p1), .int (p4 - p3)]) (rest := []) ⟨hx, hb, hml, hown, hts⟩ (kJ6_compare_7cf53 l D cI cJ cD q hq N (p2 - p1) (p4 - p3) r76 hc) (va_cwS 2 hts gX8_compare_J6_compare_7cf53 rfl rfl rfl (by decide +kernel) ⟨(Nat.le_of_ble_eq_true rfl), (Nat.le_of_ble_eq_true rfl)⟩) ⟨gP_blind, fun U hU hW => ⟨rfl, by rw [hU]; exact hP.sub (ws' := (w_0none q cI cJ cD)) [] rfl, gEv.warm hW hE⟩⟩ rfl rfl hl.1 rfl (lv_room (Nat.le_of_ble_eq_true rfl)) dX8_compare_76 ⟨Nat.zero_le _, Nat.zero_le _⟩) hP hS (gSub rfl) rfl rfl rfl rfl rfl (fun H locs hP hS => ?_)
    cases hf
    exact W.iret hx hb hr (fun t ht hW => ⟨⟨rfl, by rw [ht]; exact hP⟩, hS.F ht⟩) hS.2.2 dX8_compare_79
  · have hf := (if_neg c_1).symm.trans hf
    refine lv_aload_n hx hb dX8_compare_43 rfl (lv_at hl 2 rfl) ?_
    refine va_get (D := D) (ci := 6) (v := .ref (q 1)) (C := RX8) (T := TX8) (N := 6) hx hb hts huX8 hown hE.1 hP 0 rfl rfl 0 (by decide) hk10 (fun _ h9 => h9) rfl dX8_compare_44 ?_
    refine lv_iload_n hx hb dX8_compare_47 rfl (lv_at hl 3 rfl) ?_
    refine lv_iload hx hb dX8_compare_48 (lv_at hl 0 rfl) ?_
    refine lv_iadd hx hb dX8_compare_50 ?_
    obtain ⟨r51, hc, hf⟩ := bn_some hf
    try dsimp only at hf
    refine g_call0 (ws' := (w_0_1_2 q cI cJ cD Tn Ta)) (st1 := [.int r51]) hq [0, 1, 2] [1, 2] [.inr 0, .inl 0, .inl 1] (va_runV (As := [.int (p1 + r31)]) (rest := []) ⟨hx, hb, hml, hown, hts⟩ (kX2_letter l D cI cJ cD q hq N Tn Ta (p1 + r31) r51 hc) (cwV 1 hts gX8_compare_X2_letter rfl rfl rfl (by decide +kernel) ⟨(Nat.le_of_ble_eq_true rfl), (Nat.le_of_ble_eq_true rfl)⟩) ⟨gP_blind, va_recv hE.1 hP (ci := 2) (q0 := 1) rfl rfl, fun U hU hW => ⟨rfl, by rw [hU]; exact hP.sub (ws' := (w_1_2 q cI cJ cD Tn Ta)) [1, 2] rfl, gEv.warm hW hE⟩⟩ rfl rfl hl.1 rfl (lv_room (Nat.le_of_ble_eq_true rfl)) dX8_compare_51 ⟨Nat.zero_le _, Nat.zero_le _⟩) hP hS (gSub rfl) rfl rfl rfl rfl rfl (fun H locs hP hS => ?_)
    refine lv_aload_n hx hb dX8_compare_54 rfl (lv_at hl 2 rfl) ?_
    refine va_get (D := D) (ci := 6) (v := .ref (q 1)) (C := RX8) (T := TX8) (N := 6) hx hb hts huX8 hown hE.1 hP 0 rfl rfl 0 (by decide) hk10 (fun _ h9 => h9) rfl dX8_compare_55 ?_
    refine lv_iload_n hx hb dX8_compare_58 rfl (lv_at hl 5 rfl) ?_
    refine lv_iload hx hb dX8_compare_59 (lv_at hl 0 rfl) ?_
    refine lv_iadd hx hb dX8_compare_61 ?_
    obtain ⟨r62, hc, hf⟩ := bn_some hf
    try dsimp only at hf
    refine g_call0 (ws' := (w_0_1_2 q cI cJ cD Tn Ta)) (st1 := [.int r62, .int r51]) hq [0, 1, 2] [1, 2] [.inr 0, .inl 0, .inl 1] (va_runV (As := [.int (p3 + r31)]) (rest := [.int r51]) ⟨hx, hb, hml, hown, hts⟩ (kX2_letter l D cI cJ cD q hq N Tn Ta (p3 + r31) r62 hc) (cwV 1 hts gX8_compare_X2_letter rfl rfl rfl (by decide +kernel) ⟨(Nat.le_of_ble_eq_true rfl), (Nat.le_of_ble_eq_true rfl)⟩) ⟨gP_blind, va_recv hE.1 hP (ci := 2) (q0 := 1) rfl rfl, fun U hU hW => ⟨rfl, by rw [hU]; exact hP.sub (ws' := (w_1_2 q cI cJ cD Tn Ta)) [1, 2] rfl, gEv.warm hW hE⟩⟩ rfl rfl hl.1 rfl (lv_room (Nat.le_of_ble_eq_true rfl)) dX8_compare_62 ⟨Nat.zero_le _, Nat.zero_le _⟩) hP hS (gSub rfl) rfl rfl rfl rfl rfl (fun H locs hP hS => ?_)
    obtain ⟨r65, hc, hf⟩ := bn_some hf
    try dsimp only at hf
    refine g_call0 (ws' := (w_0_1_2 q cI cJ cD Tn Ta)) (st1 := [.int r65]) hq [0, 1, 2] [] [.inr 0, .inr 1, .inr 2] (va_runS (As := [.int r51, .int r62]) (rest := []) ⟨hx, hb, hml, hown, hts⟩ (kJ6_compare_7cf53 l D cI cJ cD q hq N r51 r62 r65 hc) (va_cwS 2 hts gX8_compare_J6_compare_7cf53 rfl rfl rfl (by decide +kernel) ⟨(Nat.le_of_ble_eq_true rfl), (Nat.le_of_ble_eq_true rfl)⟩) ⟨gP_blind, fun U hU hW => ⟨rfl, by rw [hU]; exact hP.sub (ws' := (w_0none q cI cJ cD)) [] rfl, gEv.warm hW hE⟩⟩ rfl rfl hl.1 rfl (lv_room (Nat.le_of_ble_eq_true rfl)) dX8_compare_65 ⟨Nat.zero_le _, Nat.zero_le _⟩) hP hS (gSub rfl) rfl rfl rfl rfl rfl (fun H locs hP hS => ?_)
    cases hf
    exact W.iret hx hb hr (fun t ht hW => ⟨⟨rfl, by rw [ht]; exact hP⟩, hS.F ht⟩) hS.2.2 dX8_compare_68
set_option maxHeartbeats 4000000 in
set_option maxRecDepth 100000 in
theorem kX8_comparex (l : Launch) (hlt : l.stackTraces = false) (D : va_G) (cI cJ cD : ClassId) (sa : Nat → Nat) (q : Nat → Nat) (hq : gInj q) (N : Nat) (Tn : Int32) (Ta : (Nat → Int32)) (p1 : Int32) (p2 : Int32) (p3 : Int32) (p4 : Int32) (e0 : Nat) (hf : fX8_compare N Tn Ta p1 p2 p3 p4 = some (.inl e0)) : vx_Met l yX8_compare wsX8_compare rX8_comparex (gPx D cI cJ cD sa (gA q [0, 1, 2]) [.ref (q 0), .int p1, .int p2, .int p3, .int p4] (w_0_1_2 q cI cJ cD Tn Ta)) (fun _ _ _ _ => False) (gX D (gEn e0) (w_0_1_2 q cI cJ cD Tn Ta) (gA q [0, 1, 2])) 1 6 (gA q [0, 1, 2]) := by
  refine vx_ofW (cc := cX8_compare) (maxL := 7) (ret := (some .int)) (by decide +kernel) rfl ?_
  intro p e s m args below meth c s₁ B hml htab hv
  obtain ⟨rfl, hP, hE, hXe⟩ := hv
  have hx := B.exec
  have hb := B.bytes
  have hr := B.returns
  have hts := atoms_spec (ws := wsX8_compare) B.pre
  have hown : s.vm.findClass RX8 = some m.cls := findClass_of_methodNamed B.named
  have hlocks := B.notSynchronized
  have hS : va_S (gA q [0, 1, 2]) s.heap s.heap [] := va_S.rf
  have hl := lv_entry ([.ref (q 0), .int p1, .int p2, .int p3, .int p4]) (n := 7) (Nat.le_of_ble_eq_true rfl)
  rw [lg_entry_eq]
  generalize (lg_sl ([.ref (q 0), .int p1, .int p2, .int p3, .int p4]) ++ List.replicate (7 - (lg_sl ([.ref (q 0), .int p1, .int p2, .int p3, .int p4])).length) Slot.unset).toArray = ls at hl ⊢
  have hl : lv_has ls 7 [(0, .ref (q 0)), (1, .int p1), (2, .int p2), (3, .int p3), (4, .int p4)] := hl
  have hk10 := hts (.fieldLink RX8 10 "LyndonText" "text" "LLyndonText$Letters;") (by decide +kernel)
  have huX8 : ∀ w ∈ u_ws RX8 TX8 6, w ∈ wsX8_compare := by decide +kernel
  unfold fX8_compare at hf
  refine lv_aload_n hx hb dX8_compare_0 rfl (lv_at hl 0 rfl) ?_
  refine lv_iload_n hx hb dX8_compare_1 rfl (lv_at hl 1 rfl) ?_
  refine lv_iload_n hx hb dX8_compare_2 rfl (lv_at hl 2 rfl) ?_
  rcases bx_some hf with ⟨e3, hc, hf⟩ | ⟨⟨⟩, hc, hf⟩
  · try dsimp only at hf
    refine g_callX (ws' := (w_0_1_2 q cI cJ cD Tn Ta)) hq [0, 1, 2] [0, 1] [.inl 0, .inl 1, .inr 2] (vx_runV (As := [.int p1, .int p2]) (rest := []) ⟨hx, hb, hml, hown, hts⟩ (kX8_checkPartx l hlt D cI cJ cD sa q hq N Tn p1 p2 e3 hc) (cwV 2 hts gX8_compare_X8_checkPart rfl rfl rfl (by decide +kernel) ⟨(Nat.le_of_ble_eq_true rfl), (Nat.le_of_ble_eq_true rfl)⟩) ⟨gPx_blind, va_recv hE.1 hP (ci := 6) (q0 := 0) rfl rfl, fun U hU hW => ⟨rfl, by rw [hU]; exact hP.sub (ws' := (w_0_1 q cI cJ cD Tn)) [0, 1] rfl, gEv.warm hW hE, gXe.go hW hS (gMono rfl) hXe hU⟩⟩ rfl rfl hl.1 rfl (lv_room (Nat.le_of_ble_eq_true rfl)) dX8_compare_3 ⟨(Nat.le_of_ble_eq_true rfl), (Nat.le_of_ble_eq_true rfl)⟩) hP hS (gSub rfl) rfl rfl rfl rfl (fun ce q9 H locs hP hS hce hcv hcl => ?_)
    cases hf
    exact vx_out (fun x9 hx9 => (htab x9 hx9).elim) hlocks hce hcv hcl (fun t ht hv => ⟨rfl, by rw [ht]; exact hP, hS.F ht⟩) hS.2.2 (Nat.le_of_ble_eq_true rfl) (Nat.le_of_ble_eq_true rfl)
  try dsimp only at hf
  refine g_call0 (ws' := (w_0_1_2 q cI cJ cD Tn Ta)) (st1 := []) hq [0, 1, 2] [0, 1] [.inl 0, .inl 1, .inr 2] (va_runV (As := [.int p1, .int p2]) (rest := []) ⟨hx, hb, hml, hown, hts⟩ (kX8_checkPart l D cI cJ cD q hq N Tn p1 p2 hc) (cwV 2 hts gX8_compare_X8_checkPart rfl rfl rfl (by decide +kernel) ⟨(Nat.le_of_ble_eq_true rfl), (Nat.le_of_ble_eq_true rfl)⟩) ⟨gP_blind, va_recv hE.1 hP (ci := 6) (q0 := 0) rfl rfl, fun U hU hW => ⟨rfl, by rw [hU]; exact hP.sub (ws' := (w_0_1 q cI cJ cD Tn)) [0, 1] rfl, gEv.warm hW hE⟩⟩ rfl rfl hl.1 rfl (lv_room (Nat.le_of_ble_eq_true rfl)) dX8_compare_3 ⟨Nat.zero_le _, Nat.zero_le _⟩) hP hS (gSub rfl) rfl rfl rfl rfl rfl (fun H locs hP hS => ?_)
  refine lv_aload_n hx hb dX8_compare_6 rfl (lv_at hl 0 rfl) ?_
  refine lv_iload_n hx hb dX8_compare_7 rfl (lv_at hl 3 rfl) ?_
  refine lv_iload hx hb dX8_compare_8 (lv_at hl 4 rfl) ?_
  rcases bx_some hf with ⟨e10, hc, hf⟩ | ⟨⟨⟩, hc, hf⟩
  · try dsimp only at hf
    refine g_callX (ws' := (w_0_1_2 q cI cJ cD Tn Ta)) hq [0, 1, 2] [0, 1] [.inl 0, .inl 1, .inr 2] (vx_runV (As := [.int p3, .int p4]) (rest := []) ⟨hx, hb, hml, hown, hts⟩ (kX8_checkPartx l hlt D cI cJ cD sa q hq N Tn p3 p4 e10 hc) (cwV 2 hts gX8_compare_X8_checkPart rfl rfl rfl (by decide +kernel) ⟨(Nat.le_of_ble_eq_true rfl), (Nat.le_of_ble_eq_true rfl)⟩) ⟨gPx_blind, va_recv hE.1 hP (ci := 6) (q0 := 0) rfl rfl, fun U hU hW => ⟨rfl, by rw [hU]; exact hP.sub (ws' := (w_0_1 q cI cJ cD Tn)) [0, 1] rfl, gEv.warm hW hE, gXe.go hW hS (gMono rfl) hXe hU⟩⟩ rfl rfl hl.1 rfl (lv_room (Nat.le_of_ble_eq_true rfl)) dX8_compare_10 ⟨(Nat.le_of_ble_eq_true rfl), (Nat.le_of_ble_eq_true rfl)⟩) hP hS (gSub rfl) rfl rfl rfl rfl (fun ce q9 H locs hP hS hce hcv hcl => ?_)
    cases hf
    exact vx_out (fun x9 hx9 => (htab x9 hx9).elim) hlocks hce hcv hcl (fun t ht hv => ⟨rfl, by rw [ht]; exact hP, hS.F ht⟩) hS.2.2 (Nat.le_of_ble_eq_true rfl) (Nat.le_of_ble_eq_true rfl)
  try dsimp only at hf
  refine g_call0 (ws' := (w_0_1_2 q cI cJ cD Tn Ta)) (st1 := []) hq [0, 1, 2] [0, 1] [.inl 0, .inl 1, .inr 2] (va_runV (As := [.int p3, .int p4]) (rest := []) ⟨hx, hb, hml, hown, hts⟩ (kX8_checkPart l D cI cJ cD q hq N Tn p3 p4 hc) (cwV 2 hts gX8_compare_X8_checkPart rfl rfl rfl (by decide +kernel) ⟨(Nat.le_of_ble_eq_true rfl), (Nat.le_of_ble_eq_true rfl)⟩) ⟨gP_blind, va_recv hE.1 hP (ci := 6) (q0 := 0) rfl rfl, fun U hU hW => ⟨rfl, by rw [hU]; exact hP.sub (ws' := (w_0_1 q cI cJ cD Tn)) [0, 1] rfl, gEv.warm hW hE⟩⟩ rfl rfl hl.1 rfl (lv_room (Nat.le_of_ble_eq_true rfl)) dX8_compare_10 ⟨Nat.zero_le _, Nat.zero_le _⟩) hP hS (gSub rfl) rfl rfl rfl rfl rfl (fun H locs hP hS => ?_)
  refine lv_iload_n hx hb dX8_compare_13 rfl (lv_at hl 2 rfl) ?_
  refine lv_iload_n hx hb dX8_compare_14 rfl (lv_at hl 1 rfl) ?_
  refine lv_isub hx hb dX8_compare_15 ?_
  refine lv_iload hx hb dX8_compare_16 (lv_at hl 4 rfl) ?_
  refine lv_iload_n hx hb dX8_compare_18 rfl (lv_at hl 3 rfl) ?_
  refine lv_isub hx hb dX8_compare_19 ?_
  refine va_mmin hx hb (hml.trans hl.1.symm) hown (hts (.methodLink RX8 130 Lib.Math.min.name) (by decide +kernel)) (hts (.static Lib.Math.min.name) (by decide +kernel)) (hts (.initialized "java/lang/Math") (by decide +kernel)) (hts (.code Lib.Math.min.name Lib.Math.min.code 2 (some .int)) (by decide +kernel)) (Nat.le_of_ble_eq_true rfl) (Nat.le_of_ble_eq_true rfl) (Nat.zero_le _) (Nat.zero_le _) dX8_compare_20 ?_
  refine lv_istore (lv' := [(5, .int (if (p4 - p3) < (p2 - p1) then (p4 - p3) else (p2 - p1))), (0, .ref (q 0)), (1, .int p1), (2, .int p2), (3, .int p3), (4, .int p4)]) hx hb dX8_compare_23 hl (by decide) rfl (fun ls hl => ?_)
  refine lv_aload_n hx hb dX8_compare_25 rfl (lv_at hl 1 rfl) ?_
  refine va_get (D := D) (ci := 6) (v := .ref (q 1)) (C := RX8) (T := TX8) (N := 6) hx hb hts huX8 hown hE.1 hP 0 rfl rfl 0 (by decide) hk10 (fun _ h9 => h9) rfl dX8_compare_26 ?_
  refine lv_iload_n hx hb dX8_compare_29 rfl (lv_at hl 2 rfl) ?_
  refine lv_iload_n hx hb dX8_compare_30 rfl (lv_at hl 4 rfl) ?_
  obtain ⟨r31, hc, hf⟩ := bn_some hf
  try dsimp only at hf
  refine g_call0 (ws' := (w_0_1_2 q cI cJ cD Tn Ta)) (st1 := [.int r31]) hq [0, 1, 2] [1, 2] [.inr 0, .inl 0, .inl 1] (va_runV (As := [.int p1, .int p3]) (rest := []) ⟨hx, hb, hml, hown, hts⟩ (kX2_countSame l D cI cJ cD q hq N Tn Ta p1 p3 r31 hc) (cwV 2 hts gX8_compare_X2_countSame rfl rfl rfl (by decide +kernel) ⟨(Nat.le_of_ble_eq_true rfl), (Nat.le_of_ble_eq_true rfl)⟩) ⟨gP_blind, va_recv hE.1 hP (ci := 2) (q0 := 1) rfl rfl, fun U hU hW => ⟨rfl, by rw [hU]; exact hP.sub (ws' := (w_1_2 q cI cJ cD Tn Ta)) [1, 2] rfl, gEv.warm hW hE⟩⟩ rfl rfl hl.1 rfl (lv_room (Nat.le_of_ble_eq_true rfl)) dX8_compare_31 ⟨Nat.zero_le _, Nat.zero_le _⟩) hP hS (gSub rfl) rfl rfl rfl rfl rfl (fun H locs hP hS => ?_)
  refine lv_istore (lv' := [(6, .int r31), (5, .int (if (p4 - p3) < (p2 - p1) then (p4 - p3) else (p2 - p1))), (0, .ref (q 0)), (1, .int p1), (2, .int p2), (3, .int p3), (4, .int p4)]) hx hb dX8_compare_34 hl (by decide) rfl (fun ls hl => ?_)
  refine lv_iload hx hb dX8_compare_36 (lv_at hl 0 rfl) ?_
  refine lv_iload hx hb dX8_compare_38 (lv_at hl 1 rfl) ?_
  refine lv_icmp_ge (tgt := 69) hx hb dX8_compare_40 (by decide) (fun c_1 => ?_) (fun c_1 => ?_)
  · have hf := (if_pos c_1).symm.trans hf
    refine lv_iload_n hx hb dX8_compare_69 rfl (lv_at hl 4 rfl) ?_
    refine lv_iload_n hx hb dX8_compare_70 rfl (lv_at hl 3 rfl) ?_
    refine lv_isub hx hb dX8_compare_71 ?_
    refine lv_iload hx hb dX8_compare_72 (lv_at hl 6 rfl) ?_
    refine lv_iload_n hx hb dX8_compare_74 rfl (lv_at hl 5 rfl) ?_
    refine lv_isub hx hb dX8_compare_75 ?_
    obtain ⟨r76, hc, hf⟩ := bn_some hf
    try dsimp only at hf
    refine g_call0 (ws' := (w_0_1_2 q cI cJ cD Tn Ta)) (st1 := [.int r76]) hq [0, 1, 2] [] [.inr 0, .inr 1, .inr 2] (va_runS (As := [.int (p2 - p1), .int (p4 - p3)]) (rest := []) ⟨hx, hb, hml, hown, hts⟩ (kJ6_compare_7cf53 l D cI cJ cD q hq N (p2 - p1) (p4 - p3) r76 hc) (va_cwS 2 hts gX8_compare_J6_compare_7cf53 rfl rfl rfl (by decide +kernel) ⟨(Nat.le_of_ble_eq_true rfl), (Nat.le_of_ble_eq_true rfl)⟩) ⟨gP_blind, fun U hU hW => ⟨rfl, by rw [hU]; exact hP.sub (ws' := (w_0none q cI cJ cD)) [] rfl, gEv.warm hW hE⟩⟩ rfl rfl hl.1 rfl (lv_room (Nat.le_of_ble_eq_true rfl)) dX8_compare_76 ⟨Nat.zero_le _, Nat.zero_le _⟩) hP hS (gSub rfl) rfl rfl rfl rfl rfl (fun H locs hP hS => ?_)
    exact nomatch hf
  · have hf := (if_neg c_1).symm.trans hf
    refine lv_aload_n hx hb dX8_compare_43 rfl (lv_at hl 2 rfl) ?_
    refine va_get (D := D) (ci := 6) (v := .ref (q 1)) (C := RX8) (T := TX8) (N := 6) hx hb hts huX8 hown hE.1 hP 0 rfl rfl 0 (by decide) hk10 (fun _ h9 => h9) rfl dX8_compare_44 ?_
    refine lv_iload_n hx hb dX8_compare_47 rfl (lv_at hl 3 rfl) ?_
    refine lv_iload hx hb dX8_compare_48 (lv_at hl 0 rfl) ?_
    refine lv_iadd hx hb dX8_compare_50 ?_
    obtain ⟨r51, hc, hf⟩ := bn_some hf
    try dsimp only at hf
    refine g_call0 (ws' := (w_0_1_2 q cI cJ cD Tn Ta)) (st1 := [.int r51]) hq [0, 1, 2] [1, 2] [.inr 0, .inl 0, .inl 1] (va_runV (As := [.int (p1 + r31)]) (rest := []) ⟨hx, hb, hml, hown, hts⟩ (kX2_letter l D cI cJ cD q hq N Tn Ta (p1 + r31) r51 hc) (cwV 1 hts gX8_compare_X2_letter rfl rfl rfl (by decide +kernel) ⟨(Nat.le_of_ble_eq_true rfl), (Nat.le_of_ble_eq_true rfl)⟩) ⟨gP_blind, va_recv hE.1 hP (ci := 2) (q0 := 1) rfl rfl, fun U hU hW => ⟨rfl, by rw [hU]; exact hP.sub (ws' := (w_1_2 q cI cJ cD Tn Ta)) [1, 2] rfl, gEv.warm hW hE⟩⟩ rfl rfl hl.1 rfl (lv_room (Nat.le_of_ble_eq_true rfl)) dX8_compare_51 ⟨Nat.zero_le _, Nat.zero_le _⟩) hP hS (gSub rfl) rfl rfl rfl rfl rfl (fun H locs hP hS => ?_)
    refine lv_aload_n hx hb dX8_compare_54 rfl (lv_at hl 2 rfl) ?_
    refine va_get (D := D) (ci := 6) (v := .ref (q 1)) (C := RX8) (T := TX8) (N := 6) hx hb hts huX8 hown hE.1 hP 0 rfl rfl 0 (by decide) hk10 (fun _ h9 => h9) rfl dX8_compare_55 ?_
    refine lv_iload_n hx hb dX8_compare_58 rfl (lv_at hl 5 rfl) ?_
    refine lv_iload hx hb dX8_compare_59 (lv_at hl 0 rfl) ?_
    refine lv_iadd hx hb dX8_compare_61 ?_
    obtain ⟨r62, hc, hf⟩ := bn_some hf
    try dsimp only at hf
    refine g_call0 (ws' := (w_0_1_2 q cI cJ cD Tn Ta)) (st1 := [.int r62, .int r51]) hq [0, 1, 2] [1, 2] [.inr 0, .inl 0, .inl 1] (va_runV (As := [.int (p3 + r31)]) (rest := [.int r51]) ⟨hx, hb, hml, hown, hts⟩ (kX2_letter l D cI cJ cD q hq N Tn Ta (p3 + r31) r62 hc) (cwV 1 hts gX8_compare_X2_letter rfl rfl rfl (by decide +kernel) ⟨(Nat.le_of_ble_eq_true rfl), (Nat.le_of_ble_eq_true rfl)⟩) ⟨gP_blind, va_recv hE.1 hP (ci := 2) (q0 := 1) rfl rfl, fun U hU hW => ⟨rfl, by rw [hU]; exact hP.sub (ws' := (w_1_2 q cI cJ cD Tn Ta)) [1, 2] rfl, gEv.warm hW hE⟩⟩ rfl rfl hl.1 rfl (lv_room (Nat.le_of_ble_eq_true rfl)) dX8_compare_62 ⟨Nat.zero_le _, Nat.zero_le _⟩) hP hS (gSub rfl) rfl rfl rfl rfl rfl (fun H locs hP hS => ?_)
    obtain ⟨r65, hc, hf⟩ := bn_some hf
    try dsimp only at hf
    refine g_call0 (ws' := (w_0_1_2 q cI cJ cD Tn Ta)) (st1 := [.int r65]) hq [0, 1, 2] [] [.inr 0, .inr 1, .inr 2] (va_runS (As := [.int r51, .int r62]) (rest := []) ⟨hx, hb, hml, hown, hts⟩ (kJ6_compare_7cf53 l D cI cJ cD q hq N r51 r62 r65 hc) (va_cwS 2 hts gX8_compare_J6_compare_7cf53 rfl rfl rfl (by decide +kernel) ⟨(Nat.le_of_ble_eq_true rfl), (Nat.le_of_ble_eq_true rfl)⟩) ⟨gP_blind, fun U hU hW => ⟨rfl, by rw [hU]; exact hP.sub (ws' := (w_0none q cI cJ cD)) [] rfl, gEv.warm hW hE⟩⟩ rfl rfl hl.1 rfl (lv_room (Nat.le_of_ble_eq_true rfl)) dX8_compare_65 ⟨Nat.zero_le _, Nat.zero_le _⟩) hP hS (gSub rfl) rfl rfl rfl rfl rfl (fun H locs hP hS => ?_)
    exact nomatch hf
set_option maxHeartbeats 4000000 in
set_option maxRecDepth 100000 in
theorem kX8_commonPrefix (l : Launch) (D : va_G) (cI cJ cD : ClassId) (q : Nat → Nat) (hq : gInj q) (N : Nat) (Tn : Int32) (Ta : (Nat → Int32)) (p1 : Int32) (p2 : Int32) (r0 : Int32) (hf : fX8_commonPrefix N Tn Ta p1 p2 = some (.inr r0)) : Met l yX8_commonPrefix wsX8_commonPrefix rX8_commonPrefix (gP D cI cJ cD [.ref (q 0), .int p1, .int p2] (w_0_1_2 q cI cJ cD Tn Ta)) (gQ D (some (.int r0)) (w_0_1_2 q cI cJ cD Tn Ta) (gA q [0, 1, 2])) 0 0 (gA q [0, 1, 2]) := by
  refine Met.ofW (cc := cX8_commonPrefix) (maxL := 3) (ret := (some .int)) (by decide +kernel) rfl ?_
  intro p e s m args below meth c s₁ B hml hv
  obtain ⟨rfl, hP, hE⟩ := hv
  have hx := B.exec
  have hb := B.bytes
  have hr := B.returns
  have hts := atoms_spec (ws := wsX8_commonPrefix) B.pre
  have hown : s.vm.findClass RX8 = some m.cls := findClass_of_methodNamed B.named
  have hlocks := B.notSynchronized
  have hS : va_S (gA q [0, 1, 2]) s.heap s.heap [] := va_S.rf
  have hl := lv_entry ([.ref (q 0), .int p1, .int p2]) (n := 3) (Nat.le_of_ble_eq_true rfl)
  rw [lg_entry_eq]
  generalize (lg_sl ([.ref (q 0), .int p1, .int p2]) ++ List.replicate (3 - (lg_sl ([.ref (q 0), .int p1, .int p2])).length) Slot.unset).toArray = ls at hl ⊢
  have hl : lv_has ls 3 [(0, .ref (q 0)), (1, .int p1), (2, .int p2)] := hl
  have hk10 := hts (.fieldLink RX8 10 "LyndonText" "text" "LLyndonText$Letters;") (by decide +kernel)
  have huX8 : ∀ w ∈ u_ws RX8 TX8 6, w ∈ wsX8_commonPrefix := by decide +kernel
  unfold fX8_commonPrefix at hf
  refine lv_iload_n hx hb dX8_commonPrefix_0 rfl (lv_at hl 1 rfl) ?_
  refine lv_aload_n hx hb dX8_commonPrefix_1 rfl (lv_at hl 0 rfl) ?_
  refine va_get (D := D) (ci := 6) (v := .ref (q 1)) (C := RX8) (T := TX8) (N := 6) hx hb hts huX8 hown hE.1 hP 0 rfl rfl 0 (by decide) hk10 (fun _ h9 => h9) rfl dX8_commonPrefix_2 ?_
  obtain ⟨r5, hc, hf⟩ := bn_some hf
  try dsimp only at hf
  refine g_call0 (ws' := (w_0_1_2 q cI cJ cD Tn Ta)) (st1 := [.int r5, .int p1]) hq [0, 1, 2] [1] [.inr 0, .inl 0, .inr 2] (va_runV (As := []) (rest := [.int p1]) ⟨hx, hb, hml, hown, hts⟩ (kX2_count l D cI cJ cD q hq N Tn r5 hc) (cwV 0 hts gX8_commonPrefix_X2_count rfl rfl rfl (by decide +kernel) ⟨(Nat.le_of_ble_eq_true rfl), (Nat.le_of_ble_eq_true rfl)⟩) ⟨gP_blind, va_recv hE.1 hP (ci := 2) (q0 := 1) rfl rfl, fun U hU hW => ⟨rfl, by rw [hU]; exact hP.sub (ws' := (w_1 q cI cJ cD Tn)) [1] rfl, gEv.warm hW hE⟩⟩ rfl rfl hl.1 rfl (lv_room (Nat.le_of_ble_eq_true rfl)) dX8_commonPrefix_5 ⟨Nat.zero_le _, Nat.zero_le _⟩) hP hS (gSub rfl) rfl rfl rfl rfl rfl (fun H locs hP hS => ?_)
  refine lv_iconst (v := (1 : Int32)) hx hb dX8_commonPrefix_8 (by decide) ?_
  refine lv_iadd hx hb dX8_commonPrefix_9 ?_
  rcases bx_some hf with ⟨e10, hc, hf⟩ | ⟨⟨⟩, hc, hf⟩
  · exact nomatch hf
  try dsimp only at hf
  refine g_call0 (ws' := (w_0_1_2 q cI cJ cD Tn Ta)) (st1 := []) hq [0, 1, 2] [] [.inr 0, .inr 1, .inr 2] (va_runS (As := [.int p1, .int (r5 + (1 : Int32))]) (rest := []) ⟨hx, hb, hml, hown, hts⟩ (kX8_checkIndex l D cI cJ cD q hq N p1 (r5 + (1 : Int32)) hc) (va_cwS 2 hts gX8_commonPrefix_X8_checkIndex rfl rfl rfl (by decide +kernel) ⟨(Nat.le_of_ble_eq_true rfl), (Nat.le_of_ble_eq_true rfl)⟩) ⟨gP_blind, fun U hU hW => ⟨rfl, by rw [hU]; exact hP.sub (ws' := (w_0none q cI cJ cD)) [] rfl, gEv.warm hW hE⟩⟩ rfl rfl hl.1 rfl (lv_room (Nat.le_of_ble_eq_true rfl)) dX8_commonPrefix_10 ⟨Nat.zero_le _, Nat.zero_le _⟩) hP hS (gSub rfl) rfl rfl rfl rfl rfl (fun H locs hP hS => ?_)
  refine lv_iload_n hx hb dX8_commonPrefix_13 rfl (lv_at hl 2 rfl) ?_
  refine lv_aload_n hx hb dX8_commonPrefix_14 rfl (lv_at hl 0 rfl) ?_
  refine va_get (D := D) (ci := 6) (v := .ref (q 1)) (C := RX8) (T := TX8) (N := 6) hx hb hts huX8 hown hE.1 hP 0 rfl rfl 0 (by decide) hk10 (fun _ h9 => h9) rfl dX8_commonPrefix_15 ?_
  obtain ⟨r18, hc, hf⟩ := bn_some hf
  try dsimp only at hf
  refine g_call0 (ws' := (w_0_1_2 q cI cJ cD Tn Ta)) (st1 := [.int r18, .int p2]) hq [0, 1, 2] [1] [.inr 0, .inl 0, .inr 2] (va_runV (As := []) (rest := [.int p2]) ⟨hx, hb, hml, hown, hts⟩ (kX2_count l D cI cJ cD q hq N Tn r18 hc) (cwV 0 hts gX8_commonPrefix_X2_count rfl rfl rfl (by decide +kernel) ⟨(Nat.le_of_ble_eq_true rfl), (Nat.le_of_ble_eq_true rfl)⟩) ⟨gP_blind, va_recv hE.1 hP (ci := 2) (q0 := 1) rfl rfl, fun U hU hW => ⟨rfl, by rw [hU]; exact hP.sub (ws' := (w_1 q cI cJ cD Tn)) [1] rfl, gEv.warm hW hE⟩⟩ rfl rfl hl.1 rfl (lv_room (Nat.le_of_ble_eq_true rfl)) dX8_commonPrefix_18 ⟨Nat.zero_le _, Nat.zero_le _⟩) hP hS (gSub rfl) rfl rfl rfl rfl rfl (fun H locs hP hS => ?_)
  refine lv_iconst (v := (1 : Int32)) hx hb dX8_commonPrefix_21 (by decide) ?_
  refine lv_iadd hx hb dX8_commonPrefix_22 ?_
  rcases bx_some hf with ⟨e23, hc, hf⟩ | ⟨⟨⟩, hc, hf⟩
  · exact nomatch hf
  try dsimp only at hf
  refine g_call0 (ws' := (w_0_1_2 q cI cJ cD Tn Ta)) (st1 := []) hq [0, 1, 2] [] [.inr 0, .inr 1, .inr 2] (va_runS (As := [.int p2, .int (r18 + (1 : Int32))]) (rest := []) ⟨hx, hb, hml, hown, hts⟩ (kX8_checkIndex l D cI cJ cD q hq N p2 (r18 + (1 : Int32)) hc) (va_cwS 2 hts gX8_commonPrefix_X8_checkIndex rfl rfl rfl (by decide +kernel) ⟨(Nat.le_of_ble_eq_true rfl), (Nat.le_of_ble_eq_true rfl)⟩) ⟨gP_blind, fun U hU hW => ⟨rfl, by rw [hU]; exact hP.sub (ws' := (w_0none q cI cJ cD)) [] rfl, gEv.warm hW hE⟩⟩ rfl rfl hl.1 rfl (lv_room (Nat.le_of_ble_eq_true rfl)) dX8_commonPrefix_23 ⟨Nat.zero_le _, Nat.zero_le _⟩) hP hS (gSub rfl) rfl rfl rfl rfl rfl (fun H locs hP hS => ?_)
  refine lv_aload_n hx hb dX8_commonPrefix_26 rfl (lv_at hl 0 rfl) ?_
  refine va_get (D := D) (ci := 6) (v := .ref (q 1)) (C := RX8) (T := TX8) (N := 6) hx hb hts huX8 hown hE.1 hP 0 rfl rfl 0 (by decide) hk10 (fun _ h9 => h9) rfl dX8_commonPrefix_27 ?_
  refine lv_iload_n hx hb dX8_commonPrefix_30 rfl (lv_at hl 1 rfl) ?_
  refine lv_iload_n hx hb dX8_commonPrefix_31 rfl (lv_at hl 2 rfl) ?_
  obtain ⟨r32, hc, hf⟩ := bn_some hf
  try dsimp only at hf
  refine g_call0 (ws' := (w_0_1_2 q cI cJ cD Tn Ta)) (st1 := [.int r32]) hq [0, 1, 2] [1, 2] [.inr 0, .inl 0, .inl 1] (va_runV (As := [.int p1, .int p2]) (rest := []) ⟨hx, hb, hml, hown, hts⟩ (kX2_countSame l D cI cJ cD q hq N Tn Ta p1 p2 r32 hc) (cwV 2 hts gX8_commonPrefix_X2_countSame rfl rfl rfl (by decide +kernel) ⟨(Nat.le_of_ble_eq_true rfl), (Nat.le_of_ble_eq_true rfl)⟩) ⟨gP_blind, va_recv hE.1 hP (ci := 2) (q0 := 1) rfl rfl, fun U hU hW => ⟨rfl, by rw [hU]; exact hP.sub (ws' := (w_1_2 q cI cJ cD Tn Ta)) [1, 2] rfl, gEv.warm hW hE⟩⟩ rfl rfl hl.1 rfl (lv_room (Nat.le_of_ble_eq_true rfl)) dX8_commonPrefix_32 ⟨Nat.zero_le _, Nat.zero_le _⟩) hP hS (gSub rfl) rfl rfl rfl rfl rfl (fun H locs hP hS => ?_)
  cases hf
  exact W.iret hx hb hr (fun t ht hW => ⟨⟨rfl, by rw [ht]; exact hP⟩, hS.F ht⟩) hS.2.2 dX8_commonPrefix_35
set_option maxHeartbeats 4000000 in
set_option maxRecDepth 100000 in
theorem kX8_commonPrefixx (l : Launch) (hlt : l.stackTraces = false) (D : va_G) (cI cJ cD : ClassId) (sa : Nat → Nat) (q : Nat → Nat) (hq : gInj q) (N : Nat) (Tn : Int32) (Ta : (Nat → Int32)) (p1 : Int32) (p2 : Int32) (e0 : Nat) (hf : fX8_commonPrefix N Tn Ta p1 p2 = some (.inl e0)) : vx_Met l yX8_commonPrefix wsX8_commonPrefix rX8_commonPrefixx (gPx D cI cJ cD sa (gA q [0, 1, 2]) [.ref (q 0), .int p1, .int p2] (w_0_1_2 q cI cJ cD Tn Ta)) (fun _ _ _ _ => False) (gX D (gEn e0) (w_0_1_2 q cI cJ cD Tn Ta) (gA q [0, 1, 2])) 1 6 (gA q [0, 1, 2]) := by
  refine vx_ofW (cc := cX8_commonPrefix) (maxL := 3) (ret := (some .int)) (by decide +kernel) rfl ?_
  intro p e s m args below meth c s₁ B hml htab hv
  obtain ⟨rfl, hP, hE, hXe⟩ := hv
  have hx := B.exec
  have hb := B.bytes
  have hr := B.returns
  have hts := atoms_spec (ws := wsX8_commonPrefix) B.pre
  have hown : s.vm.findClass RX8 = some m.cls := findClass_of_methodNamed B.named
  have hlocks := B.notSynchronized
  have hS : va_S (gA q [0, 1, 2]) s.heap s.heap [] := va_S.rf
  have hl := lv_entry ([.ref (q 0), .int p1, .int p2]) (n := 3) (Nat.le_of_ble_eq_true rfl)
  rw [lg_entry_eq]
  generalize (lg_sl ([.ref (q 0), .int p1, .int p2]) ++ List.replicate (3 - (lg_sl ([.ref (q 0), .int p1, .int p2])).length) Slot.unset).toArray = ls at hl ⊢
  have hl : lv_has ls 3 [(0, .ref (q 0)), (1, .int p1), (2, .int p2)] := hl
  have hk10 := hts (.fieldLink RX8 10 "LyndonText" "text" "LLyndonText$Letters;") (by decide +kernel)
  have huX8 : ∀ w ∈ u_ws RX8 TX8 6, w ∈ wsX8_commonPrefix := by decide +kernel
  unfold fX8_commonPrefix at hf
  refine lv_iload_n hx hb dX8_commonPrefix_0 rfl (lv_at hl 1 rfl) ?_
  refine lv_aload_n hx hb dX8_commonPrefix_1 rfl (lv_at hl 0 rfl) ?_
  refine va_get (D := D) (ci := 6) (v := .ref (q 1)) (C := RX8) (T := TX8) (N := 6) hx hb hts huX8 hown hE.1 hP 0 rfl rfl 0 (by decide) hk10 (fun _ h9 => h9) rfl dX8_commonPrefix_2 ?_
  obtain ⟨r5, hc, hf⟩ := bn_some hf
  try dsimp only at hf
  refine g_call0 (ws' := (w_0_1_2 q cI cJ cD Tn Ta)) (st1 := [.int r5, .int p1]) hq [0, 1, 2] [1] [.inr 0, .inl 0, .inr 2] (va_runV (As := []) (rest := [.int p1]) ⟨hx, hb, hml, hown, hts⟩ (kX2_count l D cI cJ cD q hq N Tn r5 hc) (cwV 0 hts gX8_commonPrefix_X2_count rfl rfl rfl (by decide +kernel) ⟨(Nat.le_of_ble_eq_true rfl), (Nat.le_of_ble_eq_true rfl)⟩) ⟨gP_blind, va_recv hE.1 hP (ci := 2) (q0 := 1) rfl rfl, fun U hU hW => ⟨rfl, by rw [hU]; exact hP.sub (ws' := (w_1 q cI cJ cD Tn)) [1] rfl, gEv.warm hW hE⟩⟩ rfl rfl hl.1 rfl (lv_room (Nat.le_of_ble_eq_true rfl)) dX8_commonPrefix_5 ⟨Nat.zero_le _, Nat.zero_le _⟩) hP hS (gSub rfl) rfl rfl rfl rfl rfl (fun H locs hP hS => ?_)
  refine lv_iconst (v := (1 : Int32)) hx hb dX8_commonPrefix_8 (by decide) ?_
  refine lv_iadd hx hb dX8_commonPrefix_9 ?_
  rcases bx_some hf with ⟨e10, hc, hf⟩ | ⟨⟨⟩, hc, hf⟩
  · try dsimp only at hf
    refine g_callX (ws' := (w_0_1_2 q cI cJ cD Tn Ta)) hq [0, 1, 2] [] [.inr 0, .inr 1, .inr 2] (vx_runS (As := [.int p1, .int (r5 + (1 : Int32))]) (rest := []) ⟨hx, hb, hml, hown, hts⟩ (kX8_checkIndexx l hlt D cI cJ cD sa q hq N p1 (r5 + (1 : Int32)) e10 hc) (va_cwS 2 hts gX8_commonPrefix_X8_checkIndex rfl rfl rfl (by decide +kernel) ⟨(Nat.le_of_ble_eq_true rfl), (Nat.le_of_ble_eq_true rfl)⟩) ⟨gPx_blind, fun U hU hW => ⟨rfl, by rw [hU]; exact hP.sub (ws' := (w_0none q cI cJ cD)) [] rfl, gEv.warm hW hE, gXe.go hW hS (gMono rfl) hXe hU⟩⟩ rfl rfl hl.1 rfl (lv_room (Nat.le_of_ble_eq_true rfl)) dX8_commonPrefix_10 ⟨(Nat.le_of_ble_eq_true rfl), (Nat.le_of_ble_eq_true rfl)⟩) hP hS (gSub rfl) rfl rfl rfl rfl (fun ce q9 H locs hP hS hce hcv hcl => ?_)
    cases hf
    exact vx_out (fun x9 hx9 => (htab x9 hx9).elim) hlocks hce hcv hcl (fun t ht hv => ⟨rfl, by rw [ht]; exact hP, hS.F ht⟩) hS.2.2 (Nat.le_of_ble_eq_true rfl) (Nat.le_of_ble_eq_true rfl)
  try dsimp only at hf
  refine g_call0 (ws' := (w_0_1_2 q cI cJ cD Tn Ta)) (st1 := []) hq [0, 1, 2] [] [.inr 0, .inr 1, .inr 2] (va_runS (As := [.int p1, .int (r5 + (1 : Int32))]) (rest := []) ⟨hx, hb, hml, hown, hts⟩ (kX8_checkIndex l D cI cJ cD q hq N p1 (r5 + (1 : Int32)) hc) (va_cwS 2 hts gX8_commonPrefix_X8_checkIndex rfl rfl rfl (by decide +kernel) ⟨(Nat.le_of_ble_eq_true rfl), (Nat.le_of_ble_eq_true rfl)⟩) ⟨gP_blind, fun U hU hW => ⟨rfl, by rw [hU]; exact hP.sub (ws' := (w_0none q cI cJ cD)) [] rfl, gEv.warm hW hE⟩⟩ rfl rfl hl.1 rfl (lv_room (Nat.le_of_ble_eq_true rfl)) dX8_commonPrefix_10 ⟨Nat.zero_le _, Nat.zero_le _⟩) hP hS (gSub rfl) rfl rfl rfl rfl rfl (fun H locs hP hS => ?_)
  refine lv_iload_n hx hb dX8_commonPrefix_13 rfl (lv_at hl 2 rfl) ?_
  refine lv_aload_n hx hb dX8_commonPrefix_14 rfl (lv_at hl 0 rfl) ?_
  refine va_get (D := D) (ci := 6) (v := .ref (q 1)) (C := RX8) (T := TX8) (N := 6) hx hb hts huX8 hown hE.1 hP 0 rfl rfl 0 (by decide) hk10 (fun _ h9 => h9) rfl dX8_commonPrefix_15 ?_
  obtain ⟨r18, hc, hf⟩ := bn_some hf
  try dsimp only at hf
  refine g_call0 (ws' := (w_0_1_2 q cI cJ cD Tn Ta)) (st1 := [.int r18, .int p2]) hq [0, 1, 2] [1] [.inr 0, .inl 0, .inr 2] (va_runV (As := []) (rest := [.int p2]) ⟨hx, hb, hml, hown, hts⟩ (kX2_count l D cI cJ cD q hq N Tn r18 hc) (cwV 0 hts gX8_commonPrefix_X2_count rfl rfl rfl (by decide +kernel) ⟨(Nat.le_of_ble_eq_true rfl), (Nat.le_of_ble_eq_true rfl)⟩) ⟨gP_blind, va_recv hE.1 hP (ci := 2) (q0 := 1) rfl rfl, fun U hU hW => ⟨rfl, by rw [hU]; exact hP.sub (ws' := (w_1 q cI cJ cD Tn)) [1] rfl, gEv.warm hW hE⟩⟩ rfl rfl hl.1 rfl (lv_room (Nat.le_of_ble_eq_true rfl)) dX8_commonPrefix_18 ⟨Nat.zero_le _, Nat.zero_le _⟩) hP hS (gSub rfl) rfl rfl rfl rfl rfl (fun H locs hP hS => ?_)
  refine lv_iconst (v := (1 : Int32)) hx hb dX8_commonPrefix_21 (by decide) ?_
  refine lv_iadd hx hb dX8_commonPrefix_22 ?_
  rcases bx_some hf with ⟨e23, hc, hf⟩ | ⟨⟨⟩, hc, hf⟩
  · try dsimp only at hf
    refine g_callX (ws' := (w_0_1_2 q cI cJ cD Tn Ta)) hq [0, 1, 2] [] [.inr 0, .inr 1, .inr 2] (vx_runS (As := [.int p2, .int (r18 + (1 : Int32))]) (rest := []) ⟨hx, hb, hml, hown, hts⟩ (kX8_checkIndexx l hlt D cI cJ cD sa q hq N p2 (r18 + (1 : Int32)) e23 hc) (va_cwS 2 hts gX8_commonPrefix_X8_checkIndex rfl rfl rfl (by decide +kernel) ⟨(Nat.le_of_ble_eq_true rfl), (Nat.le_of_ble_eq_true rfl)⟩) ⟨gPx_blind, fun U hU hW => ⟨rfl, by rw [hU]; exact hP.sub (ws' := (w_0none q cI cJ cD)) [] rfl, gEv.warm hW hE, gXe.go hW hS (gMono rfl) hXe hU⟩⟩ rfl rfl hl.1 rfl (lv_room (Nat.le_of_ble_eq_true rfl)) dX8_commonPrefix_23 ⟨(Nat.le_of_ble_eq_true rfl), (Nat.le_of_ble_eq_true rfl)⟩) hP hS (gSub rfl) rfl rfl rfl rfl (fun ce q9 H locs hP hS hce hcv hcl => ?_)
    cases hf
    exact vx_out (fun x9 hx9 => (htab x9 hx9).elim) hlocks hce hcv hcl (fun t ht hv => ⟨rfl, by rw [ht]; exact hP, hS.F ht⟩) hS.2.2 (Nat.le_of_ble_eq_true rfl) (Nat.le_of_ble_eq_true rfl)
  try dsimp only at hf
  refine g_call0 (ws' := (w_0_1_2 q cI cJ cD Tn Ta)) (st1 := []) hq [0, 1, 2] [] [.inr 0, .inr 1, .inr 2] (va_runS (As := [.int p2, .int (r18 + (1 : Int32))]) (rest := []) ⟨hx, hb, hml, hown, hts⟩ (kX8_checkIndex l D cI cJ cD q hq N p2 (r18 + (1 : Int32)) hc) (va_cwS 2 hts gX8_commonPrefix_X8_checkIndex rfl rfl rfl (by decide +kernel) ⟨(Nat.le_of_ble_eq_true rfl), (Nat.le_of_ble_eq_true rfl)⟩) ⟨gP_blind, fun U hU hW => ⟨rfl, by rw [hU]; exact hP.sub (ws' := (w_0none q cI cJ cD)) [] rfl, gEv.warm hW hE⟩⟩ rfl rfl hl.1 rfl (lv_room (Nat.le_of_ble_eq_true rfl)) dX8_commonPrefix_23 ⟨Nat.zero_le _, Nat.zero_le _⟩) hP hS (gSub rfl) rfl rfl rfl rfl rfl (fun H locs hP hS => ?_)
  refine lv_aload_n hx hb dX8_commonPrefix_26 rfl (lv_at hl 0 rfl) ?_
  refine va_get (D := D) (ci := 6) (v := .ref (q 1)) (C := RX8) (T := TX8) (N := 6) hx hb hts huX8 hown hE.1 hP 0 rfl rfl 0 (by decide) hk10 (fun _ h9 => h9) rfl dX8_commonPrefix_27 ?_
  refine lv_iload_n hx hb dX8_commonPrefix_30 rfl (lv_at hl 1 rfl) ?_
  refine lv_iload_n hx hb dX8_commonPrefix_31 rfl (lv_at hl 2 rfl) ?_
  obtain ⟨r32, hc, hf⟩ := bn_some hf
  try dsimp only at hf
  refine g_call0 (ws' := (w_0_1_2 q cI cJ cD Tn Ta)) (st1 := [.int r32]) hq [0, 1, 2] [1, 2] [.inr 0, .inl 0, .inl 1] (va_runV (As := [.int p1, .int p2]) (rest := []) ⟨hx, hb, hml, hown, hts⟩ (kX2_countSame l D cI cJ cD q hq N Tn Ta p1 p2 r32 hc) (cwV 2 hts gX8_commonPrefix_X2_countSame rfl rfl rfl (by decide +kernel) ⟨(Nat.le_of_ble_eq_true rfl), (Nat.le_of_ble_eq_true rfl)⟩) ⟨gP_blind, va_recv hE.1 hP (ci := 2) (q0 := 1) rfl rfl, fun U hU hW => ⟨rfl, by rw [hU]; exact hP.sub (ws' := (w_1_2 q cI cJ cD Tn Ta)) [1, 2] rfl, gEv.warm hW hE⟩⟩ rfl rfl hl.1 rfl (lv_room (Nat.le_of_ble_eq_true rfl)) dX8_commonPrefix_32 ⟨Nat.zero_le _, Nat.zero_le _⟩) hP hS (gSub rfl) rfl rfl rfl rfl rfl (fun H locs hP hS => ?_)
  exact nomatch hf
set_option maxHeartbeats 4000000 in
set_option maxRecDepth 100000 in
theorem kX8_isLyndon (l : Launch) (D : va_G) (cI cJ cD : ClassId) (q : Nat → Nat) (hq : gInj q) (N : Nat) (Tn : Int32) (Ta : (Nat → Int32)) (p1 : Int32) (p2 : Int32) (r0 : Int32) (hf : fX8_isLyndon N Tn Ta p1 p2 = some (.inr r0)) : Met l yX8_isLyndon wsX8_isLyndon rX8_isLyndon (gP D cI cJ cD [.ref (q 0), .int p1, .int p2] (w_0_1_2 q cI cJ cD Tn Ta)) (gQ D (some (.int r0)) (w_0_1_2 q cI cJ cD Tn Ta) (gA q [0, 1, 2])) 0 0 (gA q [0, 1, 2]) := by
  refine Met.ofW (cc := cX8_isLyndon) (maxL := 3) (ret := (some .boolean)) (by decide +kernel) rfl ?_
  intro p e s m args below meth c s₁ B hml hv
  obtain ⟨rfl, hP, hE⟩ := hv
  have hx := B.exec
  have hb := B.bytes
  have hr := B.returns
  have hts := atoms_spec (ws := wsX8_isLyndon) B.pre
  have hown : s.vm.findClass RX8 = some m.cls := findClass_of_methodNamed B.named
  have hlocks := B.notSynchronized
  have hS : va_S (gA q [0, 1, 2]) s.heap s.heap [] := va_S.rf
  have hl := lv_entry ([.ref (q 0), .int p1, .int p2]) (n := 3) (Nat.le_of_ble_eq_true rfl)
  rw [lg_entry_eq]
  generalize (lg_sl ([.ref (q 0), .int p1, .int p2]) ++ List.replicate (3 - (lg_sl ([.ref (q 0), .int p1, .int p2])).length) Slot.unset).toArray = ls at hl ⊢
  have hl : lv_has ls 3 [(0, .ref (q 0)), (1, .int p1), (2, .int p2)] := hl
  have hk10 := hts (.fieldLink RX8 10 "LyndonText" "text" "LLyndonText$Letters;") (by decide +kernel)
  have huX8 : ∀ w ∈ u_ws RX8 TX8 6, w ∈ wsX8_isLyndon := by decide +kernel
  unfold fX8_isLyndon at hf
  refine lv_aload_n hx hb dX8_isLyndon_0 rfl (lv_at hl 0 rfl) ?_
  refine lv_iload_n hx hb dX8_isLyndon_1 rfl (lv_at hl 1 rfl) ?_
  refine lv_iload_n hx hb dX8_isLyndon_2 rfl (lv_at hl 2 rfl) ?_
  rcases bx_some hf with ⟨e3, hc, hf⟩ | ⟨⟨⟩, hc, hf⟩
  · exact nomatch hf
  try dsimp only at hf
  refine g_call0 (ws' := (w_0_1_2 q cI cJ cD Tn Ta)) (st1 := []) hq [0, 1, 2] [0, 1] [.inl 0, .inl 1, .inr 2] (va_runV (As := [.int p1, .int p2]) (rest := []) ⟨hx, hb, hml, hown, hts⟩ (kX8_checkPart l D cI cJ cD q hq N Tn p1 p2 hc) (cwV 2 hts gX8_isLyndon_X8_checkPart rfl rfl rfl (by decide +kernel) ⟨(Nat.le_of_ble_eq_true rfl), (Nat.le_of_ble_eq_true rfl)⟩) ⟨gP_blind, va_recv hE.1 hP (ci := 6) (q0 := 0) rfl rfl, fun U hU hW => ⟨rfl, by rw [hU]; exact hP.sub (ws' := (w_0_1 q cI cJ cD Tn)) [0, 1] rfl, gEv.warm hW hE⟩⟩ rfl rfl hl.1 rfl (lv_room (Nat.le_of_ble_eq_true rfl)) dX8_isLyndon_3 ⟨Nat.zero_le _, Nat.zero_le _⟩) hP hS (gSub rfl) rfl rfl rfl rfl rfl (fun H locs hP hS => ?_)
  refine lv_aload_n hx hb dX8_isLyndon_6 rfl (lv_at hl 0 rfl) ?_
  refine va_get (D := D) (ci := 6) (v := .ref (q 1)) (C := RX8) (T := TX8) (N := 6) hx hb hts huX8 hown hE.1 hP 0 rfl rfl 0 (by decide) hk10 (fun _ h9 => h9) rfl dX8_isLyndon_7 ?_
  refine lv_iload_n hx hb dX8_isLyndon_10 rfl (lv_at hl 1 rfl) ?_
  refine lv_iload_n hx hb dX8_isLyndon_11 rfl (lv_at hl 2 rfl) ?_
  obtain ⟨r12, hc, hf⟩ := bn_some hf
  try dsimp only at hf
  refine g_call0 (ws' := (w_0_1_2 q cI cJ cD Tn Ta)) (st1 := [.int r12]) hq [0, 1, 2] [1, 2] [.inr 0, .inl 0, .inl 1] (va_runS (As := [.ref (q 1), .int p1, .int p2]) (rest := []) ⟨hx, hb, hml, hown, hts⟩ (kX1_isOneFactor l D cI cJ cD q hq N Tn Ta p1 p2 r12 hc) (va_cwS 3 hts gX8_isLyndon_X1_isOneFactor rfl rfl rfl (by decide +kernel) ⟨(Nat.le_of_ble_eq_true rfl), (Nat.le_of_ble_eq_true rfl)⟩) ⟨gP_blind, fun U hU hW => ⟨rfl, by rw [hU]; exact hP.sub (ws' := (w_1_2 q cI cJ cD Tn Ta)) [1, 2] rfl, gEv.warm hW hE⟩⟩ rfl rfl hl.1 rfl (lv_room (Nat.le_of_ble_eq_true rfl)) dX8_isLyndon_12 ⟨Nat.zero_le _, Nat.zero_le _⟩) hP hS (gSub rfl) rfl rfl rfl rfl rfl (fun H locs hP hS => ?_)
  obtain ⟨g_1, hf⟩ := gd_some hf
  cases hf
  exact W.zret (ty := .boolean) hx hb hr (isB_nar g_1) (fun t ht hW => ⟨⟨rfl, by rw [ht]; exact hP⟩, hS.F ht⟩) hS.2.2 dX8_isLyndon_15
set_option maxHeartbeats 4000000 in
set_option maxRecDepth 100000 in
theorem kX8_isLyndonx (l : Launch) (hlt : l.stackTraces = false) (D : va_G) (cI cJ cD : ClassId) (sa : Nat → Nat) (q : Nat → Nat) (hq : gInj q) (N : Nat) (Tn : Int32) (Ta : (Nat → Int32)) (p1 : Int32) (p2 : Int32) (e0 : Nat) (hf : fX8_isLyndon N Tn Ta p1 p2 = some (.inl e0)) : vx_Met l yX8_isLyndon wsX8_isLyndon rX8_isLyndonx (gPx D cI cJ cD sa (gA q [0, 1, 2]) [.ref (q 0), .int p1, .int p2] (w_0_1_2 q cI cJ cD Tn Ta)) (fun _ _ _ _ => False) (gX D (gEn e0) (w_0_1_2 q cI cJ cD Tn Ta) (gA q [0, 1, 2])) 1 6 (gA q [0, 1, 2]) := by
  refine vx_ofW (cc := cX8_isLyndon) (maxL := 3) (ret := (some .boolean)) (by decide +kernel) rfl ?_
  intro p e s m args below meth c s₁ B hml htab hv
  obtain ⟨rfl, hP, hE, hXe⟩ := hv
  have hx := B.exec
  have hb := B.bytes
  have hr := B.returns
  have hts := atoms_spec (ws := wsX8_isLyndon) B.pre
  have hown : s.vm.findClass RX8 = some m.cls := findClass_of_methodNamed B.named
  have hlocks := B.notSynchronized
  have hS : va_S (gA q [0, 1, 2]) s.heap s.heap [] := va_S.rf
  have hl := lv_entry ([.ref (q 0), .int p1, .int p2]) (n := 3) (Nat.le_of_ble_eq_true rfl)
  rw [lg_entry_eq]
  generalize (lg_sl ([.ref (q 0), .int p1, .int p2]) ++ List.replicate (3 - (lg_sl ([.ref (q 0), .int p1, .int p2])).length) Slot.unset).toArray = ls at hl ⊢
  have hl : lv_has ls 3 [(0, .ref (q 0)), (1, .int p1), (2, .int p2)] := hl
  have hk10 := hts (.fieldLink RX8 10 "LyndonText" "text" "LLyndonText$Letters;") (by decide +kernel)
  have huX8 : ∀ w ∈ u_ws RX8 TX8 6, w ∈ wsX8_isLyndon := by decide +kernel
  unfold fX8_isLyndon at hf
  refine lv_aload_n hx hb dX8_isLyndon_0 rfl (lv_at hl 0 rfl) ?_
  refine lv_iload_n hx hb dX8_isLyndon_1 rfl (lv_at hl 1 rfl) ?_
  refine lv_iload_n hx hb dX8_isLyndon_2 rfl (lv_at hl 2 rfl) ?_
  rcases bx_some hf with ⟨e3, hc, hf⟩ | ⟨⟨⟩, hc, hf⟩
  · try dsimp only at hf
    refine g_callX (ws' := (w_0_1_2 q cI cJ cD Tn Ta)) hq [0, 1, 2] [0, 1] [.inl 0, .inl 1, .inr 2] (vx_runV (As := [.int p1, .int p2]) (rest := []) ⟨hx, hb, hml, hown, hts⟩ (kX8_checkPartx l hlt D cI cJ cD sa q hq N Tn p1 p2 e3 hc) (cwV 2 hts gX8_isLyndon_X8_checkPart rfl rfl rfl (by decide +kernel) ⟨(Nat.le_of_ble_eq_true rfl), (Nat.le_of_ble_eq_true rfl)⟩) ⟨gPx_blind, va_recv hE.1 hP (ci := 6) (q0 := 0) rfl rfl, fun U hU hW => ⟨rfl, by rw [hU]; exact hP.sub (ws' := (w_0_1 q cI cJ cD Tn)) [0, 1] rfl, gEv.warm hW hE, gXe.go hW hS (gMono rfl) hXe hU⟩⟩ rfl rfl hl.1 rfl (lv_room (Nat.le_of_ble_eq_true rfl)) dX8_isLyndon_3 ⟨(Nat.le_of_ble_eq_true rfl), (Nat.le_of_ble_eq_true rfl)⟩) hP hS (gSub rfl) rfl rfl rfl rfl (fun ce q9 H locs hP hS hce hcv hcl => ?_)
    cases hf
    exact vx_out (fun x9 hx9 => (htab x9 hx9).elim) hlocks hce hcv hcl (fun t ht hv => ⟨rfl, by rw [ht]; exact hP, hS.F ht⟩) hS.2.2 (Nat.le_of_ble_eq_true rfl) (Nat.le_of_ble_eq_true rfl)
  try dsimp only at hf
  refine g_call0 (ws' := (w_0_1_2 q cI cJ cD Tn Ta)) (st1 := []) hq [0, 1, 2] [0, 1] [.inl 0, .inl 1, .inr 2] (va_runV (As := [.int p1, .int p2]) (rest := []) ⟨hx, hb, hml, hown, hts⟩ (kX8_checkPart l D cI cJ cD q hq N Tn p1 p2 hc) (cwV 2 hts gX8_isLyndon_X8_checkPart rfl rfl rfl (by decide +kernel) ⟨(Nat.le_of_ble_eq_true rfl), (Nat.le_of_ble_eq_true rfl)⟩) ⟨gP_blind, va_recv hE.1 hP (ci := 6) (q0 := 0) rfl rfl, fun U hU hW => ⟨rfl, by rw [hU]; exact hP.sub (ws' := (w_0_1 q cI cJ cD Tn)) [0, 1] rfl, gEv.warm hW hE⟩⟩ rfl rfl hl.1 rfl (lv_room (Nat.le_of_ble_eq_true rfl)) dX8_isLyndon_3 ⟨Nat.zero_le _, Nat.zero_le _⟩) hP hS (gSub rfl) rfl rfl rfl rfl rfl (fun H locs hP hS => ?_)
  refine lv_aload_n hx hb dX8_isLyndon_6 rfl (lv_at hl 0 rfl) ?_
  refine va_get (D := D) (ci := 6) (v := .ref (q 1)) (C := RX8) (T := TX8) (N := 6) hx hb hts huX8 hown hE.1 hP 0 rfl rfl 0 (by decide) hk10 (fun _ h9 => h9) rfl dX8_isLyndon_7 ?_
  refine lv_iload_n hx hb dX8_isLyndon_10 rfl (lv_at hl 1 rfl) ?_
  refine lv_iload_n hx hb dX8_isLyndon_11 rfl (lv_at hl 2 rfl) ?_
  obtain ⟨r12, hc, hf⟩ := bn_some hf
  try dsimp only at hf
  refine g_call0 (ws' := (w_0_1_2 q cI cJ cD Tn Ta)) (st1 := [.int r12]) hq [0, 1, 2] [1, 2] [.inr 0, .inl 0, .inl 1] (va_runS (As := [.ref (q 1), .int p1, .int p2]) (rest := []) ⟨hx, hb, hml, hown, hts⟩ (kX1_isOneFactor l D cI cJ cD q hq N Tn Ta p1 p2 r12 hc) (va_cwS 3 hts gX8_isLyndon_X1_isOneFactor rfl rfl rfl (by decide +kernel) ⟨(Nat.le_of_ble_eq_true rfl), (Nat.le_of_ble_eq_true rfl)⟩) ⟨gP_blind, fun U hU hW => ⟨rfl, by rw [hU]; exact hP.sub (ws' := (w_1_2 q cI cJ cD Tn Ta)) [1, 2] rfl, gEv.warm hW hE⟩⟩ rfl rfl hl.1 rfl (lv_room (Nat.le_of_ble_eq_true rfl)) dX8_isLyndon_12 ⟨Nat.zero_le _, Nat.zero_le _⟩) hP hS (gSub rfl) rfl rfl rfl rfl rfl (fun H locs hP hS => ?_)
  obtain ⟨-, hf⟩ := gd_some hf
  exact nomatch hf
set_option maxHeartbeats 4000000 in
set_option maxRecDepth 100000 in
theorem kX8_factors (l : Launch) (D : va_G) (cI cJ cD : ClassId) (q : Nat → Nat) (hq : gInj q) (N : Nat) (Tn : Int32) (Ta : (Nat → Int32)) (Fn : Int32) (Fa : (Nat → Int32)) (r0 : Int32) (Fn9 : Int32) (Fa9 : (Nat → Int32)) (hf : fX8_factors N Tn Ta Fn Fa = some (r0, Fn9, Fa9)) : Met l yX8_factors wsX8_factors rX8_factors (gP D cI cJ cD [.ref (q 0)] (w_0_1_2_3_4 q cI cJ cD Tn Ta Fn Fa)) (gQ D (some (.int r0)) (w_0_1_2_3_4 q cI cJ cD Tn Ta Fn9 Fa9) (gA q [0, 1, 2, 3, 4])) 0 0 (gA q [0, 1, 2, 3, 4]) := by
  refine Met.ofW (cc := cX8_factors) (maxL := 1) (ret := (some .int)) (by decide +kernel) rfl ?_
  intro p e s m args below meth c s₁ B hml hv
  obtain ⟨rfl, hP, hE⟩ := hv
  have hx := B.exec
  have hb := B.bytes
  have hr := B.returns
  have hts := atoms_spec (ws := wsX8_factors) B.pre
  have hown : s.vm.findClass RX8 = some m.cls := findClass_of_methodNamed B.named
  have hlocks := B.notSynchronized
  have hS : va_S (gA q [0, 1, 2, 3, 4]) s.heap s.heap [] := va_S.rf
  have hl := lv_entry ([.ref (q 0)]) (n := 1) (Nat.le_of_ble_eq_true rfl)
  rw [lg_entry_eq]
  generalize (lg_sl ([.ref (q 0)]) ++ List.replicate (1 - (lg_sl ([.ref (q 0)])).length) Slot.unset).toArray = ls at hl ⊢
  have hl : lv_has ls 1 [(0, .ref (q 0))] := hl
  have hk19 := hts (.fieldLink RX8 19 "LyndonText" "factorRow" "LLyndonText$Factors;") (by decide +kernel)
  have hk10 := hts (.fieldLink RX8 10 "LyndonText" "text" "LLyndonText$Letters;") (by decide +kernel)
  have huX8 : ∀ w ∈ u_ws RX8 TX8 6, w ∈ wsX8_factors := by decide +kernel
  unfold fX8_factors at hf
  refine lv_aload_n hx hb dX8_factors_0 rfl (lv_at hl 0 rfl) ?_
  refine va_get (D := D) (ci := 6) (v := .ref (q 3)) (C := RX8) (T := TX8) (N := 6) hx hb hts huX8 hown hE.1 hP 0 rfl rfl 1 (by decide) hk19 (fun _ h9 => h9) rfl dX8_factors_1 ?_
  refine lv_aload_n hx hb dX8_factors_4 rfl (lv_at hl 0 rfl) ?_
  refine va_get (D := D) (ci := 6) (v := .ref (q 1)) (C := RX8) (T := TX8) (N := 6) hx hb hts huX8 hown hE.1 hP 0 rfl rfl 0 (by decide) hk10 (fun _ h9 => h9) rfl dX8_factors_5 ?_
  obtain ⟨⟨Fn8, Fa8⟩, hc, hf⟩ := bn_some hf
  try dsimp only at hf
  refine g_call0 (ws' := (w_0_1_2_3_4 q cI cJ cD Tn Ta Fn8 Fa8)) (st1 := []) hq [0, 1, 2, 3, 4] [1, 2, 3, 4] [.inr 0, .inl 0, .inl 1, .inl 2, .inl 3] (va_runV (As := [.ref (q 1)]) (rest := []) ⟨hx, hb, hml, hown, hts⟩ (kX1_find l D cI cJ cD q hq N Tn Ta Fn Fa Fn8 Fa8 hc) (cwV 1 hts gX8_factors_X1_find rfl rfl rfl (by decide +kernel) ⟨(Nat.le_of_ble_eq_true rfl), (Nat.le_of_ble_eq_true rfl)⟩) ⟨gP_blind, va_recv hE.1 hP (ci := 1) (q0 := 3) rfl rfl, fun U hU hW => ⟨rfl, by rw [hU]; exact hP.sub (ws' := (w_1_2_3_4 q cI cJ cD Tn Ta Fn Fa)) [1, 2, 3, 4] rfl, gEv.warm hW hE⟩⟩ rfl rfl hl.1 rfl (lv_room (Nat.le_of_ble_eq_true rfl)) dX8_factors_8 ⟨Nat.zero_le _, Nat.zero_le _⟩) hP hS (gSub rfl) rfl rfl rfl rfl rfl (fun H locs hP hS => ?_)
  refine lv_aload_n hx hb dX8_factors_11 rfl (lv_at hl 0 rfl) ?_
  refine va_get (D := D) (ci := 6) (v := .ref (q 3)) (C := RX8) (T := TX8) (N := 6) hx hb hts huX8 hown hE.1 hP 0 rfl rfl 1 (by decide) hk19 (fun _ h9 => h9) rfl dX8_factors_12 ?_
  obtain ⟨r15, hc, hf⟩ := bn_some hf
  try dsimp only at hf
  refine g_call0 (ws' := (w_0_1_2_3_4 q cI cJ cD Tn Ta Fn8 Fa8)) (st1 := [.int r15]) hq [0, 1, 2, 3, 4] [3] [.inr 0, .inr 1, .inr 2, .inl 0, .inr 4] (va_runV (As := []) (rest := []) ⟨hx, hb, hml, hown, hts⟩ (kX1_count l D cI cJ cD q hq N Fn8 r15 hc) (cwV 0 hts gX8_factors_X1_count rfl rfl rfl (by decide +kernel) ⟨(Nat.le_of_ble_eq_true rfl), (Nat.le_of_ble_eq_true rfl)⟩) ⟨gP_blind, va_recv hE.1 hP (ci := 1) (q0 := 3) rfl rfl, fun U hU hW => ⟨rfl, by rw [hU]; exact hP.sub (ws' := (w_3 q cI cJ cD Fn8)) [3] rfl, gEv.warm hW hE⟩⟩ rfl rfl hl.1 rfl (lv_room (Nat.le_of_ble_eq_true rfl)) dX8_factors_15 ⟨Nat.zero_le _, Nat.zero_le _⟩) hP hS (gSub rfl) rfl rfl rfl rfl rfl (fun H locs hP hS => ?_)
  cases hf
  exact W.iret hx hb hr (fun t ht hW => ⟨⟨rfl, by rw [ht]; exact hP⟩, hS.F ht⟩) hS.2.2 dX8_factors_18
set_option maxHeartbeats 4000000 in
set_option maxRecDepth 100000 in
theorem kX8_findFactor (l : Launch) (D : va_G) (cI cJ cD : ClassId) (q : Nat → Nat) (hq : gInj q) (N : Nat) (Tn : Int32) (Ta : (Nat → Int32)) (Fn : Int32) (Fa : (Nat → Int32)) (p1 : Int32) (Fn9 : Int32) (Fa9 : (Nat → Int32)) (hf : fX8_findFactor N Tn Ta Fn Fa p1 = some (.inr (Fn9, Fa9))) : Met l yX8_findFactor wsX8_findFactor rX8_findFactor (gP D cI cJ cD [.ref (q 0), .int p1] (w_0_1_2_3_4 q cI cJ cD Tn Ta Fn Fa)) (gQ D none (w_0_1_2_3_4 q cI cJ cD Tn Ta Fn9 Fa9) (gA q [0, 1, 2, 3, 4])) 0 0 (gA q [0, 1, 2, 3, 4]) := by
  refine Met.ofW (cc := cX8_findFactor) (maxL := 2) (ret := none) (by decide +kernel) rfl ?_
  intro p e s m args below meth c s₁ B hml hv
  obtain ⟨rfl, hP, hE⟩ := hv
  have hx := B.exec
  have hb := B.bytes
  have hr := B.returns
  have hts := atoms_spec (ws := wsX8_findFactor) B.pre
  have hown : s.vm.findClass RX8 = some m.cls := findClass_of_methodNamed B.named
  have hlocks := B.notSynchronized
  have hS : va_S (gA q [0, 1, 2, 3, 4]) s.heap s.heap [] := va_S.rf
  have hl := lv_entry ([.ref (q 0), .int p1]) (n := 2) (Nat.le_of_ble_eq_true rfl)
  rw [lg_entry_eq]
  generalize (lg_sl ([.ref (q 0), .int p1]) ++ List.replicate (2 - (lg_sl ([.ref (q 0), .int p1])).length) Slot.unset).toArray = ls at hl ⊢
  have hl : lv_has ls 2 [(0, .ref (q 0)), (1, .int p1)] := hl
  have hk19 := hts (.fieldLink RX8 19 "LyndonText" "factorRow" "LLyndonText$Factors;") (by decide +kernel)
  have hk10 := hts (.fieldLink RX8 10 "LyndonText" "text" "LLyndonText$Letters;") (by decide +kernel)
  have huX8 : ∀ w ∈ u_ws RX8 TX8 6, w ∈ wsX8_findFactor := by decide +kernel
  unfold fX8_findFactor at hf
  refine lv_aload_n hx hb dX8_findFactor_0 rfl (lv_at hl 0 rfl) ?_
  refine va_get (D := D) (ci := 6) (v := .ref (q 3)) (C := RX8) (T := TX8) (N := 6) hx hb hts huX8 hown hE.1 hP 0 rfl rfl 1 (by decide) hk19 (fun _ h9 => h9) rfl dX8_findFactor_1 ?_
  refine lv_aload_n hx hb dX8_findFactor_4 rfl (lv_at hl 0 rfl) ?_
  refine va_get (D := D) (ci := 6) (v := .ref (q 1)) (C := RX8) (T := TX8) (N := 6) hx hb hts huX8 hown hE.1 hP 0 rfl rfl 0 (by decide) hk10 (fun _ h9 => h9) rfl dX8_findFactor_5 ?_
  obtain ⟨⟨Fn8, Fa8⟩, hc, hf⟩ := bn_some hf
  try dsimp only at hf
  refine g_call0 (ws' := (w_0_1_2_3_4 q cI cJ cD Tn Ta Fn8 Fa8)) (st1 := []) hq [0, 1, 2, 3, 4] [1, 2, 3, 4] [.inr 0, .inl 0, .inl 1, .inl 2, .inl 3] (va_runV (As := [.ref (q 1)]) (rest := []) ⟨hx, hb, hml, hown, hts⟩ (kX1_find l D cI cJ cD q hq N Tn Ta Fn Fa Fn8 Fa8 hc) (cwV 1 hts gX8_findFactor_X1_find rfl rfl rfl (by decide +kernel) ⟨(Nat.le_of_ble_eq_true rfl), (Nat.le_of_ble_eq_true rfl)⟩) ⟨gP_blind, va_recv hE.1 hP (ci := 1) (q0 := 3) rfl rfl, fun U hU hW => ⟨rfl, by rw [hU]; exact hP.sub (ws' := (w_1_2_3_4 q cI cJ cD Tn Ta Fn Fa)) [1, 2, 3, 4] rfl, gEv.warm hW hE⟩⟩ rfl rfl hl.1 rfl (lv_room (Nat.le_of_ble_eq_true rfl)) dX8_findFactor_8 ⟨Nat.zero_le _, Nat.zero_le _⟩) hP hS (gSub rfl) rfl rfl rfl rfl rfl (fun H locs hP hS => ?_)
  refine lv_iload_n hx hb dX8_findFactor_11 rfl (lv_at hl 1 rfl) ?_
  refine lv_aload_n hx hb dX8_findFactor_12 rfl (lv_at hl 0 rfl) ?_
  refine va_get (D := D) (ci := 6) (v := .ref (q 3)) (C := RX8) (T := TX8) (N := 6) hx hb hts huX8 hown hE.1 hP 0 rfl rfl 1 (by decide) hk19 (fun _ h9 => h9) rfl dX8_findFactor_13 ?_
  obtain ⟨r16, hc, hf⟩ := bn_some hf
  try dsimp only at hf
  refine g_call0 (ws' := (w_0_1_2_3_4 q cI cJ cD Tn Ta Fn8 Fa8)) (st1 := [.int r16, .int p1]) hq [0, 1, 2, 3, 4] [3] [.inr 0, .inr 1, .inr 2, .inl 0, .inr 4] (va_runV (As := []) (rest := [.int p1]) ⟨hx, hb, hml, hown, hts⟩ (kX1_count l D cI cJ cD q hq N Fn8 r16 hc) (cwV 0 hts gX8_findFactor_X1_count rfl rfl rfl (by decide +kernel) ⟨(Nat.le_of_ble_eq_true rfl), (Nat.le_of_ble_eq_true rfl)⟩) ⟨gP_blind, va_recv hE.1 hP (ci := 1) (q0 := 3) rfl rfl, fun U hU hW => ⟨rfl, by rw [hU]; exact hP.sub (ws' := (w_3 q cI cJ cD Fn8)) [3] rfl, gEv.warm hW hE⟩⟩ rfl rfl hl.1 rfl (lv_room (Nat.le_of_ble_eq_true rfl)) dX8_findFactor_16 ⟨Nat.zero_le _, Nat.zero_le _⟩) hP hS (gSub rfl) rfl rfl rfl rfl rfl (fun H locs hP hS => ?_)
  rcases bx_some hf with ⟨e19, hc, hf⟩ | ⟨⟨⟩, hc, hf⟩
  · exact nomatch hf
  try dsimp only at hf
  refine g_call0 (ws' := (w_0_1_2_3_4 q cI cJ cD Tn Ta Fn8 Fa8)) (st1 := []) hq [0, 1, 2, 3, 4] [] [.inr 0, .inr 1, .inr 2, .inr 3, .inr 4] (va_runS (As := [.int p1, .int r16]) (rest := []) ⟨hx, hb, hml, hown, hts⟩ (kX8_checkIndex l D cI cJ cD q hq N p1 r16 hc) (va_cwS 2 hts gX8_findFactor_X8_checkIndex rfl rfl rfl (by decide +kernel) ⟨(Nat.le_of_ble_eq_true rfl), (Nat.le_of_ble_eq_true rfl)⟩) ⟨gP_blind, fun U hU hW => ⟨rfl, by rw [hU]; exact hP.sub (ws' := (w_0none q cI cJ cD)) [] rfl, gEv.warm hW hE⟩⟩ rfl rfl hl.1 rfl (lv_room (Nat.le_of_ble_eq_true rfl)) dX8_findFactor_19 ⟨Nat.zero_le _, Nat.zero_le _⟩) hP hS (gSub rfl) rfl rfl rfl rfl rfl (fun H locs hP hS => ?_)
  cases hf
  exact W.vret hx hb hr (fun t ht hW => ⟨⟨rfl, by rw [ht]; exact hP⟩, hS.F ht⟩) hS.2.2 dX8_findFactor_22
set_option maxHeartbeats 4000000 in
set_option maxRecDepth 100000 in
theorem kX8_findFactorx (l : Launch) (hlt : l.stackTraces = false) (D : va_G) (cI cJ cD : ClassId) (sa : Nat → Nat) (q : Nat → Nat) (hq : gInj q) (N : Nat) (Tn : Int32) (Ta : (Nat → Int32)) (Fn : Int32) (Fa : (Nat → Int32)) (p1 : Int32) (e0 : Nat) (Fn9 : Int32) (Fa9 : (Nat → Int32)) (hf : fX8_findFactor N Tn Ta Fn Fa p1 = some (.inl (e0, Fn9, Fa9))) : vx_Met l yX8_findFactor wsX8_findFactor rX8_findFactorx (gPx D cI cJ cD sa (gA q [0, 1, 2, 3, 4]) [.ref (q 0), .int p1] (w_0_1_2_3_4 q cI cJ cD Tn Ta Fn Fa)) (fun _ _ _ _ => False) (gX D (gEn e0) (w_0_1_2_3_4 q cI cJ cD Tn Ta Fn9 Fa9) (gA q [0, 1, 2, 3, 4])) 1 6 (gA q [0, 1, 2, 3, 4]) := by
  refine vx_ofW (cc := cX8_findFactor) (maxL := 2) (ret := none) (by decide +kernel) rfl ?_
  intro p e s m args below meth c s₁ B hml htab hv
  obtain ⟨rfl, hP, hE, hXe⟩ := hv
  have hx := B.exec
  have hb := B.bytes
  have hr := B.returns
  have hts := atoms_spec (ws := wsX8_findFactor) B.pre
  have hown : s.vm.findClass RX8 = some m.cls := findClass_of_methodNamed B.named
  have hlocks := B.notSynchronized
  have hS : va_S (gA q [0, 1, 2, 3, 4]) s.heap s.heap [] := va_S.rf
  have hl := lv_entry ([.ref (q 0), .int p1]) (n := 2) (Nat.le_of_ble_eq_true rfl)
  rw [lg_entry_eq]
  generalize (lg_sl ([.ref (q 0), .int p1]) ++ List.replicate (2 - (lg_sl ([.ref (q 0), .int p1])).length) Slot.unset).toArray = ls at hl ⊢
  have hl : lv_has ls 2 [(0, .ref (q 0)), (1, .int p1)] := hl
  have hk19 := hts (.fieldLink RX8 19 "LyndonText" "factorRow" "LLyndonText$Factors;") (by decide +kernel)
  have hk10 := hts (.fieldLink RX8 10 "LyndonText" "text" "LLyndonText$Letters;") (by decide +kernel)
  have huX8 : ∀ w ∈ u_ws RX8 TX8 6, w ∈ wsX8_findFactor := by decide +kernel
  unfold fX8_findFactor at hf
  refine lv_aload_n hx hb dX8_findFactor_0 rfl (lv_at hl 0 rfl) ?_
  refine va_get (D := D) (ci := 6) (v := .ref (q 3)) (C := RX8) (T := TX8) (N := 6) hx hb hts huX8 hown hE.1 hP 0 rfl rfl 1 (by decide) hk19 (fun _ h9 => h9) rfl dX8_findFactor_1 ?_
  refine lv_aload_n hx hb dX8_findFactor_4 rfl (lv_at hl 0 rfl) ?_
  refine va_get (D := D) (ci := 6) (v := .ref (q 1)) (C := RX8) (T := TX8) (N := 6) hx hb hts huX8 hown hE.1 hP 0 rfl rfl 0 (by decide) hk10 (fun _ h9 => h9) rfl dX8_findFactor_5 ?_
  obtain ⟨⟨Fn8, Fa8⟩, hc, hf⟩ := bn_some hf
  try dsimp only at hf
  refine g_call0 (ws' := (w_0_1_2_3_4 q cI cJ cD Tn Ta Fn8 Fa8)) (st1 := []) hq [0, 1, 2, 3, 4] [1, 2, 3, 4] [.inr 0, .inl 0, .inl 1, .inl 2, .inl 3] (va_runV (As := [.ref (q 1)]) (rest := []) ⟨hx, hb, hml, hown, hts⟩ (kX1_find l D cI cJ cD q hq N Tn Ta Fn Fa Fn8 Fa8 hc) (cwV 1 hts gX8_findFactor_X1_find rfl rfl rfl (by decide +kernel) ⟨(Nat.le_of_ble_eq_true rfl), (Nat.le_of_ble_eq_true rfl)⟩) ⟨gP_blind, va_recv hE.1 hP (ci := 1) (q0 := 3) rfl rfl, fun U hU hW => ⟨rfl, by rw [hU]; exact hP.sub (ws' := (w_1_2_3_4 q cI cJ cD Tn Ta Fn Fa)) [1, 2, 3, 4] rfl, gEv.warm hW hE⟩⟩ rfl rfl hl.1 rfl (lv_room (Nat.le_of_ble_eq_true rfl)) dX8_findFactor_8 ⟨Nat.zero_le _, Nat.zero_le _⟩) hP hS (gSub rfl) rfl rfl rfl rfl rfl (fun H locs hP hS => ?_)
  refine lv_iload_n hx hb dX8_findFactor_11 rfl (lv_at hl 1 rfl) ?_
  refine lv_aload_n hx hb dX8_findFactor_12 rfl (lv_at hl 0 rfl) ?_
  refine va_get (D := D) (ci := 6) (v := .ref (q 3)) (C := RX8) (T := TX8) (N := 6) hx hb hts huX8 hown hE.1 hP 0 rfl rfl 1 (by decide) hk19 (fun _ h9 => h9) rfl dX8_findFactor_13 ?_
  obtain ⟨r16, hc, hf⟩ := bn_some hf
  try dsimp only at hf
  refine g_call0 (ws' := (w_0_1_2_3_4 q cI cJ cD Tn Ta Fn8 Fa8)) (st1 := [.int r16, .int p1]) hq [0, 1, 2, 3, 4] [3] [.inr 0, .inr 1, .inr 2, .inl 0, .inr 4] (va_runV (As := []) (rest := [.int p1]) ⟨hx, hb, hml, hown, hts⟩ (kX1_count l D cI cJ cD q hq N Fn8 r16 hc) (cwV 0 hts gX8_findFactor_X1_count rfl rfl rfl (by decide +kernel) ⟨(Nat.le_of_ble_eq_true rfl), (Nat.le_of_ble_eq_true rfl)⟩) ⟨gP_blind, va_recv hE.1 hP (ci := 1) (q0 := 3) rfl rfl, fun U hU hW => ⟨rfl, by rw [hU]; exact hP.sub (ws' := (w_3 q cI cJ cD Fn8)) [3] rfl, gEv.warm hW hE⟩⟩ rfl rfl hl.1 rfl (lv_room (Nat.le_of_ble_eq_true rfl)) dX8_findFactor_16 ⟨Nat.zero_le _, Nat.zero_le _⟩) hP hS (gSub rfl) rfl rfl rfl rfl rfl (fun H locs hP hS => ?_)
  rcases bx_some hf with ⟨e19, hc, hf⟩ | ⟨⟨⟩, hc, hf⟩
  · try dsimp only at hf
    refine g_callX (ws' := (w_0_1_2_3_4 q cI cJ cD Tn Ta Fn8 Fa8)) hq [0, 1, 2, 3, 4] [] [.inr 0, .inr 1, .inr 2, .inr 3, .inr 4] (vx_runS (As := [.int p1, .int r16]) (rest := []) ⟨hx, hb, hml, hown, hts⟩ (kX8_checkIndexx l hlt D cI cJ cD sa q hq N p1 r16 e19 hc) (va_cwS 2 hts gX8_findFactor_X8_checkIndex rfl rfl rfl (by decide +kernel) ⟨(Nat.le_of_ble_eq_true rfl), (Nat.le_of_ble_eq_true rfl)⟩) ⟨gPx_blind, fun U hU hW => ⟨rfl, by rw [hU]; exact hP.sub (ws' := (w_0none q cI cJ cD)) [] rfl, gEv.warm hW hE, gXe.go hW hS (gMono rfl) hXe hU⟩⟩ rfl rfl hl.1 rfl (lv_room (Nat.le_of_ble_eq_true rfl)) dX8_findFactor_19 ⟨(Nat.le_of_ble_eq_true rfl), (Nat.le_of_ble_eq_true rfl)⟩) hP hS (gSub rfl) rfl rfl rfl rfl (fun ce q9 H locs hP hS hce hcv hcl => ?_)
    cases hf
    exact vx_out (fun x9 hx9 => (htab x9 hx9).elim) hlocks hce hcv hcl (fun t ht hv => ⟨rfl, by rw [ht]; exact hP, hS.F ht⟩) hS.2.2 (Nat.le_of_ble_eq_true rfl) (Nat.le_of_ble_eq_true rfl)
  try dsimp only at hf
  refine g_call0 (ws' := (w_0_1_2_3_4 q cI cJ cD Tn Ta Fn8 Fa8)) (st1 := []) hq [0, 1, 2, 3, 4] [] [.inr 0, .inr 1, .inr 2, .inr 3, .inr 4] (va_runS (As := [.int p1, .int r16]) (rest := []) ⟨hx, hb, hml, hown, hts⟩ (kX8_checkIndex l D cI cJ cD q hq N p1 r16 hc) (va_cwS 2 hts gX8_findFactor_X8_checkIndex rfl rfl rfl (by decide +kernel) ⟨(Nat.le_of_ble_eq_true rfl), (Nat.le_of_ble_eq_true rfl)⟩) ⟨gP_blind, fun U hU hW => ⟨rfl, by rw [hU]; exact hP.sub (ws' := (w_0none q cI cJ cD)) [] rfl, gEv.warm hW hE⟩⟩ rfl rfl hl.1 rfl (lv_room (Nat.le_of_ble_eq_true rfl)) dX8_findFactor_19 ⟨Nat.zero_le _, Nat.zero_le _⟩) hP hS (gSub rfl) rfl rfl rfl rfl rfl (fun H locs hP hS => ?_)
  exact nomatch hf
set_option maxHeartbeats 4000000 in
set_option maxRecDepth 100000 in
theorem kX8_factorStart (l : Launch) (D : va_G) (cI cJ cD : ClassId) (q : Nat → Nat) (hq : gInj q) (N : Nat) (Tn : Int32) (Ta : (Nat → Int32)) (Fn : Int32) (Fa : (Nat → Int32)) (p1 : Int32) (r0 : Int32) (Fn9 : Int32) (Fa9 : (Nat → Int32)) (hf : fX8_factorStart N Tn Ta Fn Fa p1 = some (.inr (r0, Fn9, Fa9))) : Met l yX8_factorStart wsX8_factorStart rX8_factorStart (gP D cI cJ cD [.ref (q 0), .int p1] (w_0_1_2_3_4 q cI cJ cD Tn Ta Fn Fa)) (gQ D (some (.int r0)) (w_0_1_2_3_4 q cI cJ cD Tn Ta Fn9 Fa9) (gA q [0, 1, 2, 3, 4])) 0 0 (gA q [0, 1, 2, 3, 4]) := by
  refine Met.ofW (cc := cX8_factorStart) (maxL := 2) (ret := (some .int)) (by decide +kernel) rfl ?_
  intro p e s m args below meth c s₁ B hml hv
  obtain ⟨rfl, hP, hE⟩ := hv
  have hx := B.exec
  have hb := B.bytes
  have hr := B.returns
  have hts := atoms_spec (ws := wsX8_factorStart) B.pre
  have hown : s.vm.findClass RX8 = some m.cls := findClass_of_methodNamed B.named
  have hlocks := B.notSynchronized
  have hS : va_S (gA q [0, 1, 2, 3, 4]) s.heap s.heap [] := va_S.rf
  have hl := lv_entry ([.ref (q 0), .int p1]) (n := 2) (Nat.le_of_ble_eq_true rfl)
  rw [lg_entry_eq]
  generalize (lg_sl ([.ref (q 0), .int p1]) ++ List.replicate (2 - (lg_sl ([.ref (q 0), .int p1])).length) Slot.unset).toArray = ls at hl ⊢
  have hl : lv_has ls 2 [(0, .ref (q 0)), (1, .int p1)] := hl
  have hk19 := hts (.fieldLink RX8 19 "LyndonText" "factorRow" "LLyndonText$Factors;") (by decide +kernel)
  have huX8 : ∀ w ∈ u_ws RX8 TX8 6, w ∈ wsX8_factorStart := by decide +kernel
  unfold fX8_factorStart at hf
  refine lv_aload_n hx hb dX8_factorStart_0 rfl (lv_at hl 0 rfl) ?_
  refine lv_iload_n hx hb dX8_factorStart_1 rfl (lv_at hl 1 rfl) ?_
  rcases bx_some hf with ⟨⟨e2, Fn2, Fa2⟩, hc, hf⟩ | ⟨⟨Fn2, Fa2⟩, hc, hf⟩
  · exact nomatch hf
  try dsimp only at hf
  refine g_call0 (ws' := (w_0_1_2_3_4 q cI cJ cD Tn Ta Fn2 Fa2)) (st1 := []) hq [0, 1, 2, 3, 4] [0, 1, 2, 3, 4] [.inl 0, .inl 1, .inl 2, .inl 3, .inl 4] (va_runV (As := [.int p1]) (rest := []) ⟨hx, hb, hml, hown, hts⟩ (kX8_findFactor l D cI cJ cD q hq N Tn Ta Fn Fa p1 Fn2 Fa2 hc) (cwV 1 hts gX8_factorStart_X8_findFactor rfl rfl rfl (by decide +kernel) ⟨(Nat.le_of_ble_eq_true rfl), (Nat.le_of_ble_eq_true rfl)⟩) ⟨gP_blind, va_recv hE.1 hP (ci := 6) (q0 := 0) rfl rfl, fun U hU hW => ⟨rfl, by rw [hU]; exact hP.sub (ws' := (w_0_1_2_3_4 q cI cJ cD Tn Ta Fn Fa)) [0, 1, 2, 3, 4] rfl, gEv.warm hW hE⟩⟩ rfl rfl hl.1 rfl (lv_room (Nat.le_of_ble_eq_true rfl)) dX8_factorStart_2 ⟨Nat.zero_le _, Nat.zero_le _⟩) hP hS (gSub rfl) rfl rfl rfl rfl rfl (fun H locs hP hS => ?_)
  refine lv_aload_n hx hb dX8_factorStart_5 rfl (lv_at hl 0 rfl) ?_
  refine va_get (D := D) (ci := 6) (v := .ref (q 3)) (C := RX8) (T := TX8) (N := 6) hx hb hts huX8 hown hE.1 hP 0 rfl rfl 1 (by decide) hk19 (fun _ h9 => h9) rfl dX8_factorStart_6 ?_
  refine lv_iload_n hx hb dX8_factorStart_9 rfl (lv_at hl 1 rfl) ?_
  obtain ⟨r10, hc, hf⟩ := bn_some hf
  try dsimp only at hf
  refine g_call0 (ws' := (w_0_1_2_3_4 q cI cJ cD Tn Ta Fn2 Fa2)) (st1 := [.int r10]) hq [0, 1, 2, 3, 4] [3, 4] [.inr 0, .inr 1, .inr 2, .inl 0, .inl 1] (va_runV (As := [.int p1]) (rest := []) ⟨hx, hb, hml, hown, hts⟩ (kX1_start l D cI cJ cD q hq N Fn2 Fa2 p1 r10 hc) (cwV 1 hts gX8_factorStart_X1_start rfl rfl rfl (by decide +kernel) ⟨(Nat.le_of_ble_eq_true rfl), (Nat.le_of_ble_eq_true rfl)⟩) ⟨gP_blind, va_recv hE.1 hP (ci := 1) (q0 := 3) rfl rfl, fun U hU hW => ⟨rfl, by rw [hU]; exact hP.sub (ws' := (w_3_4 q cI cJ cD Fn2 Fa2)) [3, 4] rfl, gEv.warm hW hE⟩⟩ rfl rfl hl.1 rfl (lv_room (Nat.le_of_ble_eq_true rfl)) dX8_factorStart_10 ⟨Nat.zero_le _, Nat.zero_le _⟩) hP hS (gSub rfl) rfl rfl rfl rfl rfl (fun H locs hP hS => ?_)
  cases hf
  exact W.iret hx hb hr (fun t ht hW => ⟨⟨rfl, by rw [ht]; exact hP⟩, hS.F ht⟩) hS.2.2 dX8_factorStart_13
set_option maxHeartbeats 4000000 in
set_option maxRecDepth 100000 in
theorem kX8_factorStartx (l : Launch) (hlt : l.stackTraces = false) (D : va_G) (cI cJ cD : ClassId) (sa : Nat → Nat) (q : Nat → Nat) (hq : gInj q) (N : Nat) (Tn : Int32) (Ta : (Nat → Int32)) (Fn : Int32) (Fa : (Nat → Int32)) (p1 : Int32) (e0 : Nat) (Fn9 : Int32) (Fa9 : (Nat → Int32)) (hf : fX8_factorStart N Tn Ta Fn Fa p1 = some (.inl (e0, Fn9, Fa9))) : vx_Met l yX8_factorStart wsX8_factorStart rX8_factorStartx (gPx D cI cJ cD sa (gA q [0, 1, 2, 3, 4]) [.ref (q 0), .int p1] (w_0_1_2_3_4 q cI cJ cD Tn Ta Fn Fa)) (fun _ _ _ _ => False) (gX D (gEn e0) (w_0_1_2_3_4 q cI cJ cD Tn Ta Fn9 Fa9) (gA q [0, 1, 2, 3, 4])) 1 6 (gA q [0, 1, 2, 3, 4]) := by
  refine vx_ofW (cc := cX8_factorStart) (maxL := 2) (ret := (some .int)) (by decide +kernel) rfl ?_
  intro p e s m args below meth c s₁ B hml htab hv
  obtain ⟨rfl, hP, hE, hXe⟩ := hv
  have hx := B.exec
  have hb := B.bytes
  have hr := B.returns
  have hts := atoms_spec (ws := wsX8_factorStart) B.pre
  have hown : s.vm.findClass RX8 = some m.cls := findClass_of_methodNamed B.named
  have hlocks := B.notSynchronized
  have hS : va_S (gA q [0, 1, 2, 3, 4]) s.heap s.heap [] := va_S.rf
  have hl := lv_entry ([.ref (q 0), .int p1]) (n := 2) (Nat.le_of_ble_eq_true rfl)
  rw [lg_entry_eq]
  generalize (lg_sl ([.ref (q 0), .int p1]) ++ List.replicate (2 - (lg_sl ([.ref (q 0), .int p1])).length) Slot.unset).toArray = ls at hl ⊢
  have hl : lv_has ls 2 [(0, .ref (q 0)), (1, .int p1)] := hl
  have hk19 := hts (.fieldLink RX8 19 "LyndonText" "factorRow" "LLyndonText$Factors;") (by decide +kernel)
  have huX8 : ∀ w ∈ u_ws RX8 TX8 6, w ∈ wsX8_factorStart := by decide +kernel
  unfold fX8_factorStart at hf
  refine lv_aload_n hx hb dX8_factorStart_0 rfl (lv_at hl 0 rfl) ?_
  refine lv_iload_n hx hb dX8_factorStart_1 rfl (lv_at hl 1 rfl) ?_
  rcases bx_some hf with ⟨⟨e2, Fn2, Fa2⟩, hc, hf⟩ | ⟨⟨Fn2, Fa2⟩, hc, hf⟩
  · try dsimp only at hf
    refine g_callX (ws' := (w_0_1_2_3_4 q cI cJ cD Tn Ta Fn2 Fa2)) hq [0, 1, 2, 3, 4] [0, 1, 2, 3, 4] [.inl 0, .inl 1, .inl 2, .inl 3, .inl 4] (vx_runV (As := [.int p1]) (rest := []) ⟨hx, hb, hml, hown, hts⟩ (kX8_findFactorx l hlt D cI cJ cD sa q hq N Tn Ta Fn Fa p1 e2 Fn2 Fa2 hc) (cwV 1 hts gX8_factorStart_X8_findFactor rfl rfl rfl (by decide +kernel) ⟨(Nat.le_of_ble_eq_true rfl), (Nat.le_of_ble_eq_true rfl)⟩) ⟨gPx_blind, va_recv hE.1 hP (ci := 6) (q0 := 0) rfl rfl, fun U hU hW => ⟨rfl, by rw [hU]; exact hP.sub (ws' := (w_0_1_2_3_4 q cI cJ cD Tn Ta Fn Fa)) [0, 1, 2, 3, 4] rfl, gEv.warm hW hE, gXe.go hW hS (gMono rfl) hXe hU⟩⟩ rfl rfl hl.1 rfl (lv_room (Nat.le_of_ble_eq_true rfl)) dX8_factorStart_2 ⟨(Nat.le_of_ble_eq_true rfl), (Nat.le_of_ble_eq_true rfl)⟩) hP hS (gSub rfl) rfl rfl rfl rfl (fun ce q9 H locs hP hS hce hcv hcl => ?_)
    cases hf
    exact vx_out (fun x9 hx9 => (htab x9 hx9).elim) hlocks hce hcv hcl (fun t ht hv => ⟨rfl, by rw [ht]; exact hP, hS.F ht⟩) hS.2.2 (Nat.le_of_ble_eq_true rfl) (Nat.le_of_ble_eq_true rfl)
  try dsimp only at hf
  refine g_call0 (ws' := (w_0_1_2_3_4 q cI cJ cD Tn Ta Fn2 Fa2)) (st1 := []) hq [0, 1, 2, 3, 4] [0, 1, 2, 3, 4] [.inl 0, .inl 1, .inl 2, .inl 3, .inl 4] (va_runV (As := [.int p1]) (rest := []) ⟨hx, hb, hml, hown, hts⟩ (kX8_findFactor l D cI cJ cD q hq N Tn Ta Fn Fa p1 Fn2 Fa2 hc) (cwV 1 hts gX8_factorStart_X8_findFactor rfl rfl rfl (by decide +kernel) ⟨(Nat.le_of_ble_eq_true rfl), (Nat.le_of_ble_eq_true rfl)⟩) ⟨gP_blind, va_recv hE.1 hP (ci := 6) (q0 := 0) rfl rfl, fun U hU hW => ⟨rfl, by rw [hU]; exact hP.sub (ws' := (w_0_1_2_3_4 q cI cJ cD Tn Ta Fn Fa)) [0, 1, 2, 3, 4] rfl, gEv.warm hW hE⟩⟩ rfl rfl hl.1 rfl (lv_room (Nat.le_of_ble_eq_true rfl)) dX8_factorStart_2 ⟨Nat.zero_le _, Nat.zero_le _⟩) hP hS (gSub rfl) rfl rfl rfl rfl rfl (fun H locs hP hS => ?_)
  refine lv_aload_n hx hb dX8_factorStart_5 rfl (lv_at hl 0 rfl) ?_
  refine va_get (D := D) (ci := 6) (v := .ref (q 3)) (C := RX8) (T := TX8) (N := 6) hx hb hts huX8 hown hE.1 hP 0 rfl rfl 1 (by decide) hk19 (fun _ h9 => h9) rfl dX8_factorStart_6 ?_
  refine lv_iload_n hx hb dX8_factorStart_9 rfl (lv_at hl 1 rfl) ?_
  obtain ⟨r10, hc, hf⟩ := bn_some hf
  try dsimp only at hf
  refine g_call0 (ws' := (w_0_1_2_3_4 q cI cJ cD Tn Ta Fn2 Fa2)) (st1 := [.int r10]) hq [0, 1, 2, 3, 4] [3, 4] [.inr 0, .inr 1, .inr 2, .inl 0, .inl 1] (va_runV (As := [.int p1]) (rest := []) ⟨hx, hb, hml, hown, hts⟩ (kX1_start l D cI cJ cD q hq N Fn2 Fa2 p1 r10 hc) (cwV 1 hts gX8_factorStart_X1_start rfl rfl rfl (by decide +kernel) ⟨(Nat.le_of_ble_eq_true rfl), (Nat.le_of_ble_eq_true rfl)⟩) ⟨gP_blind, va_recv hE.1 hP (ci := 1) (q0 := 3) rfl rfl, fun U hU hW => ⟨rfl, by rw [hU]; exact hP.sub (ws' := (w_3_4 q cI cJ cD Fn2 Fa2)) [3, 4] rfl, gEv.warm hW hE⟩⟩ rfl rfl hl.1 rfl (lv_room (Nat.le_of_ble_eq_true rfl)) dX8_factorStart_10 ⟨Nat.zero_le _, Nat.zero_le _⟩) hP hS (gSub rfl) rfl rfl rfl rfl rfl (fun H locs hP hS => ?_)
  exact nomatch hf
set_option maxHeartbeats 4000000 in
set_option maxRecDepth 100000 in
theorem kX8_factorLength (l : Launch) (D : va_G) (cI cJ cD : ClassId) (q : Nat → Nat) (hq : gInj q) (N : Nat) (Tn : Int32) (Ta : (Nat → Int32)) (Fn : Int32) (Fa : (Nat → Int32)) (p1 : Int32) (r0 : Int32) (Fn9 : Int32) (Fa9 : (Nat → Int32)) (hf : fX8_factorLength N Tn Ta Fn Fa p1 = some (.inr (r0, Fn9, Fa9))) : Met l yX8_factorLength wsX8_factorLength rX8_factorLength (gP D cI cJ cD [.ref (q 0), .int p1] (w_0_1_2_3_4 q cI cJ cD Tn Ta Fn Fa)) (gQ D (some (.int r0)) (w_0_1_2_3_4 q cI cJ cD Tn Ta Fn9 Fa9) (gA q [0, 1, 2, 3, 4])) 0 0 (gA q [0, 1, 2, 3, 4]) := by
  refine Met.ofW (cc := cX8_factorLength) (maxL := 2) (ret := (some .int)) (by decide +kernel) rfl ?_
  intro p e s m args below meth c s₁ B hml hv
  obtain ⟨rfl, hP, hE⟩ := hv
  have hx := B.exec
  have hb := B.bytes
  have hr := B.returns
  have hts := atoms_spec (ws := wsX8_factorLength) B.pre
  have hown : s.vm.findClass RX8 = some m.cls := findClass_of_methodNamed B.named
  have hlocks := B.notSynchronized
  have hS : va_S (gA q [0, 1, 2, 3, 4]) s.heap s.heap [] := va_S.rf
  have hl := lv_entry ([.ref (q 0), .int p1]) (n := 2) (Nat.le_of_ble_eq_true rfl)
  rw [lg_entry_eq]
  generalize (lg_sl ([.ref (q 0), .int p1]) ++ List.replicate (2 - (lg_sl ([.ref (q 0), .int p1])).length) Slot.unset).toArray = ls at hl ⊢
  have hl : lv_has ls 2 [(0, .ref (q 0)), (1, .int p1)] := hl
  have hk19 := hts (.fieldLink RX8 19 "LyndonText" "factorRow" "LLyndonText$Factors;") (by decide +kernel)
  have huX8 : ∀ w ∈ u_ws RX8 TX8 6, w ∈ wsX8_factorLength := by decide +kernel
  unfold fX8_factorLength at hf
  refine lv_aload_n hx hb dX8_factorLength_0 rfl (lv_at hl 0 rfl) ?_
  refine lv_iload_n hx hb dX8_factorLength_1 rfl (lv_at hl 1 rfl) ?_
  rcases bx_some hf with ⟨⟨e2, Fn2, Fa2⟩, hc, hf⟩ | ⟨⟨Fn2, Fa2⟩, hc, hf⟩
  · exact nomatch hf
  try dsimp only at hf
  refine g_call0 (ws' := (w_0_1_2_3_4 q cI cJ cD Tn Ta Fn2 Fa2)) (st1 := []) hq [0, 1, 2, 3, 4] [0, 1, 2, 3, 4] [.inl 0, .inl 1, .inl 2, .inl 3, .inl 4] (va_runV (As := [.int p1]) (rest := []) ⟨hx, hb, hml, hown, hts⟩ (kX8_findFactor l D cI cJ cD q hq N Tn Ta Fn Fa p1 Fn2 Fa2 hc) (cwV 1 hts gX8_factorLength_X8_findFactor rfl rfl rfl (by decide +kernel) ⟨(Nat.le_of_ble_eq_true rfl), (Nat.le_of_ble_eq_true rfl)⟩) ⟨gP_blind, va_recv hE.1 hP (ci := 6) (q0 := 0) rfl rfl, fun U hU hW => ⟨rfl, by rw [hU]; exact hP.sub (ws' := (w_0_1_2_3_4 q cI cJ cD Tn Ta Fn Fa)) [0, 1, 2, 3, 4] rfl, gEv.warm hW hE⟩⟩ rfl rfl hl.1 rfl (lv_room (Nat.le_of_ble_eq_true rfl)) dX8_factorLength_2 ⟨Nat.zero_le _, Nat.zero_le _⟩) hP hS (gSub rfl) rfl rfl rfl rfl rfl (fun H locs hP hS => ?_)
  refine lv_aload_n hx hb dX8_factorLength_5 rfl (lv_at hl 0 rfl) ?_
  refine va_get (D := D) (ci := 6) (v := .ref (q 3)) (C := RX8) (T := TX8) (N := 6) hx hb hts huX8 hown hE.1 hP 0 rfl rfl 1 (by decide) hk19 (fun _ h9 => h9) rfl dX8_factorLength_6 ?_
  refine lv_iload_n hx hb dX8_factorLength_9 rfl (lv_at hl 1 rfl) ?_
  refine lv_iconst (v := (1 : Int32)) hx hb dX8_factorLength_10 (by decide) ?_
  refine lv_iadd hx hb dX8_factorLength_11 ?_
  obtain ⟨r12, hc, hf⟩ := bn_some hf
  try dsimp only at hf
  refine g_call0 (ws' := (w_0_1_2_3_4 q cI cJ cD Tn Ta Fn2 Fa2)) (st1 := [.int r12]) hq [0, 1, 2, 3, 4] [3, 4] [.inr 0, .inr 1, .inr 2, .inl 0, .inl 1] (va_runV (As := [.int (p1 + (1 : Int32))]) (rest := []) ⟨hx, hb, hml, hown, hts⟩ (kX1_start l D cI cJ cD q hq N Fn2 Fa2 (p1 + (1 : Int32)) r12 hc) (cwV 1 hts gX8_factorLength_X1_start rfl rfl rfl (by decide +kernel) ⟨(Nat.le_of_ble_eq_true rfl), (Nat.le_of_ble_eq_true rfl)⟩) ⟨gP_blind, va_recv hE.1 hP (ci := 1) (q0 := 3) rfl rfl, fun U hU hW => ⟨rfl, by rw [hU]; exact hP.sub (ws' := (w_3_4 q cI cJ cD Fn2 Fa2)) [3, 4] rfl, gEv.warm hW hE⟩⟩ rfl rfl hl.1 rfl (lv_room (Nat.le_of_ble_eq_true rfl)) dX8_factorLength_12 ⟨Nat.zero_le _, Nat.zero_le _⟩) hP hS (gSub rfl) rfl rfl rfl rfl rfl (fun H locs hP hS => ?_)
  refine lv_aload_n hx hb dX8_factorLength_15 rfl (lv_at hl 0 rfl) ?_
  refine va_get (D := D) (ci := 6) (v := .ref (q 3)) (C := RX8) (T := TX8) (N := 6) hx hb hts huX8 hown hE.1 hP 0 rfl rfl 1 (by decide) hk19 (fun _ h9 => h9) rfl dX8_factorLength_16 ?_
  refine lv_iload_n hx hb dX8_factorLength_19 rfl (lv_at hl 1 rfl) ?_
  obtain ⟨r20, hc, hf⟩ := bn_some hf
  try dsimp only at hf
  refine g_call0 (ws' := (w_0_1_2_3_4 q cI cJ cD Tn Ta Fn2 Fa2)) (st1 := [.int r20, .int r12]) hq [0, 1, 2, 3, 4] [3, 4] [.inr 0, .inr 1, .inr 2, .inl 0, .inl 1] (va_runV (As := [.int p1]) (rest := [.int r12]) ⟨hx, hb, hml, hown, hts⟩ (kX1_start l D cI cJ cD q hq N Fn2 Fa2 p1 r20 hc) (cwV 1 hts gX8_factorLength_X1_start rfl rfl rfl (by decide +kernel) ⟨(Nat.le_of_ble_eq_true rfl), (Nat.le_of_ble_eq_true rfl)⟩) ⟨gP_blind, va_recv hE.1 hP (ci := 1) (q0 := 3) rfl rfl, fun U hU hW => ⟨rfl, by rw [hU]; exact hP.sub (ws' := (w_3_4 q cI cJ cD Fn2 Fa2)) [3, 4] rfl, gEv.warm hW hE⟩⟩ rfl rfl hl.1 rfl (lv_room (Nat.le_of_ble_eq_true rfl)) dX8_factorLength_20 ⟨Nat.zero_le _, Nat.zero_le _⟩) hP hS (gSub rfl) rfl rfl rfl rfl rfl (fun H locs hP hS => ?_)
  refine lv_isub hx hb dX8_factorLength_23 ?_
  cases hf
  exact W.iret hx hb hr (fun t ht hW => ⟨⟨rfl, by rw [ht]; exact hP⟩, hS.F ht⟩) hS.2.2 dX8_factorLength_24
set_option maxHeartbeats 4000000 in
set_option maxRecDepth 100000 in
theorem kX8_factorLengthx (l : Launch) (hlt : l.stackTraces = false) (D : va_G) (cI cJ cD : ClassId) (sa : Nat → Nat) (q : Nat → Nat) (hq : gInj q) (N : Nat) (Tn : Int32) (Ta : (Nat → Int32)) (Fn : Int32) (Fa : (Nat → Int32)) (p1 : Int32) (e0 : Nat) (Fn9 : Int32) (Fa9 : (Nat → Int32)) (hf : fX8_factorLength N Tn Ta Fn Fa p1 = some (.inl (e0, Fn9, Fa9))) : vx_Met l yX8_factorLength wsX8_factorLength rX8_factorLengthx (gPx D cI cJ cD sa (gA q [0, 1, 2, 3, 4]) [.ref (q 0), .int p1] (w_0_1_2_3_4 q cI cJ cD Tn Ta Fn Fa)) (fun _ _ _ _ => False) (gX D (gEn e0) (w_0_1_2_3_4 q cI cJ cD Tn Ta Fn9 Fa9) (gA q [0, 1, 2, 3, 4])) 1 6 (gA q [0, 1, 2, 3, 4]) := by
  refine vx_ofW (cc := cX8_factorLength) (maxL := 2) (ret := (some .int)) (by decide +kernel) rfl ?_
  intro p e s m args below meth c s₁ B hml htab hv
  obtain ⟨rfl, hP, hE, hXe⟩ := hv
  have hx := B.exec
  have hb := B.bytes
  have hr := B.returns
  have hts := atoms_spec (ws := wsX8_factorLength) B.pre
  have hown : s.vm.findClass RX8 = some m.cls := findClass_of_methodNamed B.named
  have hlocks := B.notSynchronized
  have hS : va_S (gA q [0, 1, 2, 3, 4]) s.heap s.heap [] := va_S.rf
  have hl := lv_entry ([.ref (q 0), .int p1]) (n := 2) (Nat.le_of_ble_eq_true rfl)
  rw [lg_entry_eq]
  generalize (lg_sl ([.ref (q 0), .int p1]) ++ List.replicate (2 - (lg_sl ([.ref (q 0), .int p1])).length) Slot.unset).toArray = ls at hl ⊢
  have hl : lv_has ls 2 [(0, .ref (q 0)), (1, .int p1)] := hl
  have hk19 := hts (.fieldLink RX8 19 "LyndonText" "factorRow" "LLyndonText$Factors;") (by decide +kernel)
  have huX8 : ∀ w ∈ u_ws RX8 TX8 6, w ∈ wsX8_factorLength := by decide +kernel
  unfold fX8_factorLength at hf
  refine lv_aload_n hx hb dX8_factorLength_0 rfl (lv_at hl 0 rfl) ?_
  refine lv_iload_n hx hb dX8_factorLength_1 rfl (lv_at hl 1 rfl) ?_
  rcases bx_some hf with ⟨⟨e2, Fn2, Fa2⟩, hc, hf⟩ | ⟨⟨Fn2, Fa2⟩, hc, hf⟩
  · try dsimp only at hf
    refine g_callX (ws' := (w_0_1_2_3_4 q cI cJ cD Tn Ta Fn2 Fa2)) hq [0, 1, 2, 3, 4] [0, 1, 2, 3, 4] [.inl 0, .inl 1, .inl 2, .inl 3, .inl 4] (vx_runV (As := [.int p1]) (rest := []) ⟨hx, hb, hml, hown, hts⟩ (kX8_findFactorx l hlt D cI cJ cD sa q hq N Tn Ta Fn Fa p1 e2 Fn2 Fa2 hc) (cwV 1 hts gX8_factorLength_X8_findFactor rfl rfl rfl (by decide +kernel) ⟨(Nat.le_of_ble_eq_true rfl), (Nat.le_of_ble_eq_true rfl)⟩) ⟨gPx_blind, va_recv hE.1 hP (ci := 6) (q0 := 0) rfl rfl, fun U hU hW => ⟨rfl, by rw [hU]; exact hP.sub (ws' := (w_0_1_2_3_4 q cI cJ cD Tn Ta Fn Fa)) [0, 1, 2, 3, 4] rfl, gEv.warm hW hE, gXe.go hW hS (gMono rfl) hXe hU⟩⟩ rfl rfl hl.1 rfl (lv_room (Nat.le_of_ble_eq_true rfl)) dX8_factorLength_2 ⟨(Nat.le_of_ble_eq_true rfl), (Nat.le_of_ble_eq_true rfl)⟩) hP hS (gSub rfl) rfl rfl rfl rfl (fun ce q9 H locs hP hS hce hcv hcl => ?_)
    cases hf
    exact vx_out (fun x9 hx9 => (htab x9 hx9).elim) hlocks hce hcv hcl (fun t ht hv => ⟨rfl, by rw [ht]; exact hP, hS.F ht⟩) hS.2.2 (Nat.le_of_ble_eq_true rfl) (Nat.le_of_ble_eq_true rfl)
  try dsimp only at hf
  refine g_call0 (ws' := (w_0_1_2_3_4 q cI cJ cD Tn Ta Fn2 Fa2)) (st1 := []) hq [0, 1, 2, 3, 4] [0, 1, 2, 3, 4] [.inl 0, .inl 1, .inl 2, .inl 3, .inl 4] (va_runV (As := [.int p1]) (rest := []) ⟨hx, hb, hml, hown, hts⟩ (kX8_findFactor l D cI cJ cD q hq N Tn Ta Fn Fa p1 Fn2 Fa2 hc) (cwV 1 hts gX8_factorLength_X8_findFactor rfl rfl rfl (by decide +kernel) ⟨(Nat.le_of_ble_eq_true rfl), (Nat.le_of_ble_eq_true rfl)⟩) ⟨gP_blind, va_recv hE.1 hP (ci := 6) (q0 := 0) rfl rfl, fun U hU hW => ⟨rfl, by rw [hU]; exact hP.sub (ws' := (w_0_1_2_3_4 q cI cJ cD Tn Ta Fn Fa)) [0, 1, 2, 3, 4] rfl, gEv.warm hW hE⟩⟩ rfl rfl hl.1 rfl (lv_room (Nat.le_of_ble_eq_true rfl)) dX8_factorLength_2 ⟨Nat.zero_le _, Nat.zero_le _⟩) hP hS (gSub rfl) rfl rfl rfl rfl rfl (fun H locs hP hS => ?_)
  refine lv_aload_n hx hb dX8_factorLength_5 rfl (lv_at hl 0 rfl) ?_
  refine va_get (D := D) (ci := 6) (v := .ref (q 3)) (C := RX8) (T := TX8) (N := 6) hx hb hts huX8 hown hE.1 hP 0 rfl rfl 1 (by decide) hk19 (fun _ h9 => h9) rfl dX8_factorLength_6 ?_
  refine lv_iload_n hx hb dX8_factorLength_9 rfl (lv_at hl 1 rfl) ?_
  refine lv_iconst (v := (1 : Int32)) hx hb dX8_factorLength_10 (by decide) ?_
  refine lv_iadd hx hb dX8_factorLength_11 ?_
  obtain ⟨r12, hc, hf⟩ := bn_some hf
  try dsimp only at hf
  refine g_call0 (ws' := (w_0_1_2_3_4 q cI cJ cD Tn Ta Fn2 Fa2)) (st1 := [.int r12]) hq [0, 1, 2, 3, 4] [3, 4] [.inr 0, .inr 1, .inr 2, .inl 0, .inl 1] (va_runV (As := [.int (p1 + (1 : Int32))]) (rest := []) ⟨hx, hb, hml, hown, hts⟩ (kX1_start l D cI cJ cD q hq N Fn2 Fa2 (p1 + (1 : Int32)) r12 hc) (cwV 1 hts gX8_factorLength_X1_start rfl rfl rfl (by decide +kernel) ⟨(Nat.le_of_ble_eq_true rfl), (Nat.le_of_ble_eq_true rfl)⟩) ⟨gP_blind, va_recv hE.1 hP (ci := 1) (q0 := 3) rfl rfl, fun U hU hW => ⟨rfl, by rw [hU]; exact hP.sub (ws' := (w_3_4 q cI cJ cD Fn2 Fa2)) [3, 4] rfl, gEv.warm hW hE⟩⟩ rfl rfl hl.1 rfl (lv_room (Nat.le_of_ble_eq_true rfl)) dX8_factorLength_12 ⟨Nat.zero_le _, Nat.zero_le _⟩) hP hS (gSub rfl) rfl rfl rfl rfl rfl (fun H locs hP hS => ?_)
  refine lv_aload_n hx hb dX8_factorLength_15 rfl (lv_at hl 0 rfl) ?_
  refine va_get (D := D) (ci := 6) (v := .ref (q 3)) (C := RX8) (T := TX8) (N := 6) hx hb hts huX8 hown hE.1 hP 0 rfl rfl 1 (by decide) hk19 (fun _ h9 => h9) rfl dX8_factorLength_16 ?_
  refine lv_iload_n hx hb dX8_factorLength_19 rfl (lv_at hl 1 rfl) ?_
  obtain ⟨r20, hc, hf⟩ := bn_some hf
  try dsimp only at hf
  refine g_call0 (ws' := (w_0_1_2_3_4 q cI cJ cD Tn Ta Fn2 Fa2)) (st1 := [.int r20, .int r12]) hq [0, 1, 2, 3, 4] [3, 4] [.inr 0, .inr 1, .inr 2, .inl 0, .inl 1] (va_runV (As := [.int p1]) (rest := [.int r12]) ⟨hx, hb, hml, hown, hts⟩ (kX1_start l D cI cJ cD q hq N Fn2 Fa2 p1 r20 hc) (cwV 1 hts gX8_factorLength_X1_start rfl rfl rfl (by decide +kernel) ⟨(Nat.le_of_ble_eq_true rfl), (Nat.le_of_ble_eq_true rfl)⟩) ⟨gP_blind, va_recv hE.1 hP (ci := 1) (q0 := 3) rfl rfl, fun U hU hW => ⟨rfl, by rw [hU]; exact hP.sub (ws' := (w_3_4 q cI cJ cD Fn2 Fa2)) [3, 4] rfl, gEv.warm hW hE⟩⟩ rfl rfl hl.1 rfl (lv_room (Nat.le_of_ble_eq_true rfl)) dX8_factorLength_20 ⟨Nat.zero_le _, Nat.zero_le _⟩) hP hS (gSub rfl) rfl rfl rfl rfl rfl (fun H locs hP hS => ?_)
  refine lv_isub hx hb dX8_factorLength_23 ?_
  exact nomatch hf
set_option maxHeartbeats 4000000 in
set_option maxRecDepth 100000 in
theorem kX8_factorOver (l : Launch) (D : va_G) (cI cJ cD : ClassId) (q : Nat → Nat) (hq : gInj q) (N : Nat) (Tn : Int32) (Ta : (Nat → Int32)) (Fn : Int32) (Fa : (Nat → Int32)) (p1 : Int32) (r0 : Int32) (Fn9 : Int32) (Fa9 : (Nat → Int32)) (hf : fX8_factorOver N Tn Ta Fn Fa p1 = some (.inr (r0, Fn9, Fa9))) : Met l yX8_factorOver wsX8_factorOver rX8_factorOver (gP D cI cJ cD [.ref (q 0), .int p1] (w_0_1_2_3_4 q cI cJ cD Tn Ta Fn Fa)) (gQ D (some (.int r0)) (w_0_1_2_3_4 q cI cJ cD Tn Ta Fn9 Fa9) (gA q [0, 1, 2, 3, 4])) 0 0 (gA q [0, 1, 2, 3, 4]) := by
  refine Met.ofW (cc := cX8_factorOver) (maxL := 2) (ret := (some .int)) (by decide +kernel) rfl ?_
  intro p e s m args below meth c s₁ B hml hv
  obtain ⟨rfl, hP, hE⟩ := hv
  have hx := B.exec
  have hb := B.bytes
  have hr := B.returns
  have hts := atoms_spec (ws := wsX8_factorOver) B.pre
  have hown : s.vm.findClass RX8 = some m.cls := findClass_of_methodNamed B.named
  have hlocks := B.notSynchronized
  have hS : va_S (gA q [0, 1, 2, 3, 4]) s.heap s.heap [] := va_S.rf
  have hl := lv_entry ([.ref (q 0), .int p1]) (n := 2) (Nat.le_of_ble_eq_true rfl)
  rw [lg_entry_eq]
  generalize (lg_sl ([.ref (q 0), .int p1]) ++ List.replicate (2 - (lg_sl ([.ref (q 0), .int p1])).length) Slot.unset).toArray = ls at hl ⊢
  have hl : lv_has ls 2 [(0, .ref (q 0)), (1, .int p1)] := hl
  have hk10 := hts (.fieldLink RX8 10 "LyndonText" "text" "LLyndonText$Letters;") (by decide +kernel)
  have hk19 := hts (.fieldLink RX8 19 "LyndonText" "factorRow" "LLyndonText$Factors;") (by decide +kernel)
  have huX8 : ∀ w ∈ u_ws RX8 TX8 6, w ∈ wsX8_factorOver := by decide +kernel
  unfold fX8_factorOver at hf
  refine lv_iload_n hx hb dX8_factorOver_0 rfl (lv_at hl 1 rfl) ?_
  refine lv_aload_n hx hb dX8_factorOver_1 rfl (lv_at hl 0 rfl) ?_
  refine va_get (D := D) (ci := 6) (v := .ref (q 1)) (C := RX8) (T := TX8) (N := 6) hx hb hts huX8 hown hE.1 hP 0 rfl rfl 0 (by decide) hk10 (fun _ h9 => h9) rfl dX8_factorOver_2 ?_
  obtain ⟨r5, hc, hf⟩ := bn_some hf
  try dsimp only at hf
  refine g_call0 (ws' := (w_0_1_2_3_4 q cI cJ cD Tn Ta Fn Fa)) (st1 := [.int r5, .int p1]) hq [0, 1, 2, 3, 4] [1] [.inr 0, .inl 0, .inr 2, .inr 3, .inr 4] (va_runV (As := []) (rest := [.int p1]) ⟨hx, hb, hml, hown, hts⟩ (kX2_count l D cI cJ cD q hq N Tn r5 hc) (cwV 0 hts gX8_factorOver_X2_count rfl rfl rfl (by decide +kernel) ⟨(Nat.le_of_ble_eq_true rfl), (Nat.le_of_ble_eq_true rfl)⟩) ⟨gP_blind, va_recv hE.1 hP (ci := 2) (q0 := 1) rfl rfl, fun U hU hW => ⟨rfl, by rw [hU]; exact hP.sub (ws' := (w_1 q cI cJ cD Tn)) [1] rfl, gEv.warm hW hE⟩⟩ rfl rfl hl.1 rfl (lv_room (Nat.le_of_ble_eq_true rfl)) dX8_factorOver_5 ⟨Nat.zero_le _, Nat.zero_le _⟩) hP hS (gSub rfl) rfl rfl rfl rfl rfl (fun H locs hP hS => ?_)
  rcases bx_some hf with ⟨e8, hc, hf⟩ | ⟨⟨⟩, hc, hf⟩
  · exact nomatch hf
  try dsimp only at hf
  refine g_call0 (ws' := (w_0_1_2_3_4 q cI cJ cD Tn Ta Fn Fa)) (st1 := []) hq [0, 1, 2, 3, 4] [] [.inr 0, .inr 1, .inr 2, .inr 3, .inr 4] (va_runS (As := [.int p1, .int r5]) (rest := []) ⟨hx, hb, hml, hown, hts⟩ (kX8_checkIndex l D cI cJ cD q hq N p1 r5 hc) (va_cwS 2 hts gX8_factorOver_X8_checkIndex rfl rfl rfl (by decide +kernel) ⟨(Nat.le_of_ble_eq_true rfl), (Nat.le_of_ble_eq_true rfl)⟩) ⟨gP_blind, fun U hU hW => ⟨rfl, by rw [hU]; exact hP.sub (ws' := (w_0none q cI cJ cD)) [] rfl, gEv.warm hW hE⟩⟩ rfl rfl hl.1 rfl (lv_room (Nat.le_of_ble_eq_true rfl)) dX8_factorOver_8 ⟨Nat.zero_le _, Nat.zero_le _⟩) hP hS (gSub rfl) rfl rfl rfl rfl rfl (fun H locs hP hS => ?_)
  refine lv_aload_n hx hb dX8_factorOver_11 rfl (lv_at hl 0 rfl) ?_
  refine va_get (D := D) (ci := 6) (v := .ref (q 3)) (C := RX8) (T := TX8) (N := 6) hx hb hts huX8 hown hE.1 hP 0 rfl rfl 1 (by decide) hk19 (fun _ h9 => h9) rfl dX8_factorOver_12 ?_
  refine lv_aload_n hx hb dX8_factorOver_15 rfl (lv_at hl 0 rfl) ?_
  refine va_get (D := D) (ci := 6) (v := .ref (q 1)) (C := RX8) (T := TX8) (N := 6) hx hb hts huX8 hown hE.1 hP 0 rfl rfl 0 (by decide) hk10 (fun _ h9 => h9) rfl dX8_factorOver_16 ?_
  obtain ⟨⟨Fn19, Fa19⟩, hc, hf⟩ := bn_some hf
  try dsimp only at hf
  refine g_call0 (ws' := (w_0_1_2_3_4 q cI cJ cD Tn Ta Fn19 Fa19)) (st1 := []) hq [0, 1, 2, 3, 4] [1, 2, 3, 4] [.inr 0, .inl 0, .inl 1, .inl 2, .inl 3] (va_runV (As := [.ref (q 1)]) (rest := []) ⟨hx, hb, hml, hown, hts⟩ (kX1_find l D cI cJ cD q hq N Tn Ta Fn Fa Fn19 Fa19 hc) (cwV 1 hts gX8_factorOver_X1_find rfl rfl rfl (by decide +kernel) ⟨(Nat.le_of_ble_eq_true rfl), (Nat.le_of_ble_eq_true rfl)⟩) ⟨gP_blind, va_recv hE.1 hP (ci := 1) (q0 := 3) rfl rfl, fun U hU hW => ⟨rfl, by rw [hU]; exact hP.sub (ws' := (w_1_2_3_4 q cI cJ cD Tn Ta Fn Fa)) [1, 2, 3, 4] rfl, gEv.warm hW hE⟩⟩ rfl rfl hl.1 rfl (lv_room (Nat.le_of_ble_eq_true rfl)) dX8_factorOver_19 ⟨Nat.zero_le _, Nat.zero_le _⟩) hP hS (gSub rfl) rfl rfl rfl rfl rfl (fun H locs hP hS => ?_)
  refine lv_aload_n hx hb dX8_factorOver_22 rfl (lv_at hl 0 rfl) ?_
  refine va_get (D := D) (ci := 6) (v := .ref (q 3)) (C := RX8) (T := TX8) (N := 6) hx hb hts huX8 hown hE.1 hP 0 rfl rfl 1 (by decide) hk19 (fun _ h9 => h9) rfl dX8_factorOver_23 ?_
  refine lv_iload_n hx hb dX8_factorOver_26 rfl (lv_at hl 1 rfl) ?_
  obtain ⟨r27, hc, hf⟩ := bn_some hf
  try dsimp only at hf
  refine g_call0 (ws' := (w_0_1_2_3_4 q cI cJ cD Tn Ta Fn19 Fa19)) (st1 := [.int r27]) hq [0, 1, 2, 3, 4] [3, 4] [.inr 0, .inr 1, .inr 2, .inl 0, .inl 1] (va_runV (As := [.int p1]) (rest := []) ⟨hx, hb, hml, hown, hts⟩ (kX1_numberOver l D cI cJ cD q hq N Fn19 Fa19 p1 r27 hc) (cwV 1 hts gX8_factorOver_X1_numberOver rfl rfl rfl (by decide +kernel) ⟨(Nat.le_of_ble_eq_true rfl), (Nat.le_of_ble_eq_true rfl)⟩) ⟨gP_blind, va_recv hE.1 hP (ci := 1) (q0 := 3) rfl rfl, fun U hU hW => ⟨rfl, by rw [hU]; exact hP.sub (ws' := (w_3_4 q cI cJ cD Fn19 Fa19)) [3, 4] rfl, gEv.warm hW hE⟩⟩ rfl rfl hl.1 rfl (lv_room (Nat.le_of_ble_eq_true rfl)) dX8_factorOver_27 ⟨Nat.zero_le _, Nat.zero_le _⟩) hP hS (gSub rfl) rfl rfl rfl rfl rfl (fun H locs hP hS => ?_)
  cases hf
  exact W.iret hx hb hr (fun t ht hW => ⟨⟨rfl, by rw [ht]; exact hP⟩, hS.F ht⟩) hS.2.2 dX8_factorOver_30
set_option maxHeartbeats 4000000 in
set_option maxRecDepth 100000 in
theorem kX8_factorOverx (l : Launch) (hlt : l.stackTraces = false) (D : va_G) (cI cJ cD : ClassId) (sa : Nat → Nat) (q : Nat → Nat) (hq : gInj q) (N : Nat) (Tn : Int32) (Ta : (Nat → Int32)) (Fn : Int32) (Fa : (Nat → Int32)) (p1 : Int32) (e0 : Nat) (Fn9 : Int32) (Fa9 : (Nat → Int32)) (hf : fX8_factorOver N Tn Ta Fn Fa p1 = some (.inl (e0, Fn9, Fa9))) : vx_Met l yX8_factorOver wsX8_factorOver rX8_factorOverx (gPx D cI cJ cD sa (gA q [0, 1, 2, 3, 4]) [.ref (q 0), .int p1] (w_0_1_2_3_4 q cI cJ cD Tn Ta Fn Fa)) (fun _ _ _ _ => False) (gX D (gEn e0) (w_0_1_2_3_4 q cI cJ cD Tn Ta Fn9 Fa9) (gA q [0, 1, 2, 3, 4])) 1 6 (gA q [0, 1, 2, 3, 4]) := by
  refine vx_ofW (cc := cX8_factorOver) (maxL := 2) (ret := (some .int)) (by decide +kernel) rfl ?_
  intro p e s m args below meth c s₁ B hml htab hv
  obtain ⟨rfl, hP, hE, hXe⟩ := hv
  have hx := B.exec
  have hb := B.bytes
  have hr := B.returns
  have hts := atoms_spec (ws := wsX8_factorOver) B.pre
  have hown : s.vm.findClass RX8 = some m.cls := findClass_of_methodNamed B.named
  have hlocks := B.notSynchronized
  have hS : va_S (gA q [0, 1, 2, 3, 4]) s.heap s.heap [] := va_S.rf
  have hl := lv_entry ([.ref (q 0), .int p1]) (n := 2) (Nat.le_of_ble_eq_true rfl)
  rw [lg_entry_eq]
  generalize (lg_sl ([.ref (q 0), .int p1]) ++ List.replicate (2 - (lg_sl ([.ref (q 0), .int p1])).length) Slot.unset).toArray = ls at hl ⊢
  have hl : lv_has ls 2 [(0, .ref (q 0)), (1, .int p1)] := hl
  have hk10 := hts (.fieldLink RX8 10 "LyndonText" "text" "LLyndonText$Letters;") (by decide +kernel)
  have hk19 := hts (.fieldLink RX8 19 "LyndonText" "factorRow" "LLyndonText$Factors;") (by decide +kernel)
  have huX8 : ∀ w ∈ u_ws RX8 TX8 6, w ∈ wsX8_factorOver := by decide +kernel
  unfold fX8_factorOver at hf
  refine lv_iload_n hx hb dX8_factorOver_0 rfl (lv_at hl 1 rfl) ?_
  refine lv_aload_n hx hb dX8_factorOver_1 rfl (lv_at hl 0 rfl) ?_
  refine va_get (D := D) (ci := 6) (v := .ref (q 1)) (C := RX8) (T := TX8) (N := 6) hx hb hts huX8 hown hE.1 hP 0 rfl rfl 0 (by decide) hk10 (fun _ h9 => h9) rfl dX8_factorOver_2 ?_
  obtain ⟨r5, hc, hf⟩ := bn_some hf
  try dsimp only at hf
  refine g_call0 (ws' := (w_0_1_2_3_4 q cI cJ cD Tn Ta Fn Fa)) (st1 := [.int r5, .int p1]) hq [0, 1, 2, 3, 4] [1] [.inr 0, .inl 0, .inr 2, .inr 3, .inr 4] (va_runV (As := []) (rest := [.int p1]) ⟨hx, hb, hml, hown, hts⟩ (kX2_count l D cI cJ cD q hq N Tn r5 hc) (cwV 0 hts gX8_factorOver_X2_count rfl rfl rfl (by decide +kernel) ⟨(Nat.le_of_ble_eq_true rfl), (Nat.le_of_ble_eq_true rfl)⟩) ⟨gP_blind, va_recv hE.1 hP (ci := 2) (q0 := 1) rfl rfl, fun U hU hW => ⟨rfl, by rw [hU]; exact hP.sub (ws' := (w_1 q cI cJ cD Tn)) [1] rfl, gEv.warm hW hE⟩⟩ rfl rfl hl.1 rfl (lv_room (Nat.le_of_ble_eq_true rfl)) dX8_factorOver_5 ⟨Nat.zero_le _, Nat.zero_le _⟩) hP hS (gSub rfl) rfl rfl rfl rfl rfl (fun H locs hP hS => ?_)
  rcases bx_some hf with ⟨e8, hc, hf⟩ | ⟨⟨⟩, hc, hf⟩
  · try dsimp only at hf
    refine g_callX (ws' := (w_0_1_2_3_4 q cI cJ cD Tn Ta Fn Fa)) hq [0, 1, 2, 3, 4] [] [.inr 0, .inr 1, .inr 2, .inr 3, .inr 4] (vx_runS (As := [.int p1, .int r5]) (rest := []) ⟨hx, hb, hml, hown, hts⟩ (kX8_checkIndexx l hlt D cI cJ cD sa q hq N p1 r5 e8 hc) (va_cwS 2 hts gX8_factorOver_X8_checkIndex rfl rfl rfl (by decide +kernel) ⟨(Nat.le_of_ble_eq_true rfl), (Nat.le_of_ble_eq_true rfl)⟩) ⟨gPx_blind, fun U hU hW => ⟨rfl, by rw [hU]; exact hP.sub (ws' := (w_0none q cI cJ cD)) [] rfl, gEv.warm hW hE, gXe.go hW hS (gMono rfl) hXe hU⟩⟩ rfl rfl hl.1 rfl (lv_room (Nat.le_of_ble_eq_true rfl)) dX8_factorOver_8 ⟨(Nat.le_of_ble_eq_true rfl), (Nat.le_of_ble_eq_true rfl)⟩) hP hS (gSub rfl) rfl rfl rfl rfl (fun ce q9 H locs hP hS hce hcv hcl => ?_)
    cases hf
    exact vx_out (fun x9 hx9 => (htab x9 hx9).elim) hlocks hce hcv hcl (fun t ht hv => ⟨rfl, by rw [ht]; exact hP, hS.F ht⟩) hS.2.2 (Nat.le_of_ble_eq_true rfl) (Nat.le_of_ble_eq_true rfl)
  try dsimp only at hf
  refine g_call0 (ws' := (w_0_1_2_3_4 q cI cJ cD Tn Ta Fn Fa)) (st1 := []) hq [0, 1, 2, 3, 4] [] [.inr 0, .inr 1, .inr 2, .inr 3, .inr 4] (va_runS (As := [.int p1, .int r5]) (rest := []) ⟨hx, hb, hml, hown, hts⟩ (kX8_checkIndex l D cI cJ cD q hq N p1 r5 hc) (va_cwS 2 hts gX8_factorOver_X8_checkIndex rfl rfl rfl (by decide +kernel) ⟨(Nat.le_of_ble_eq_true rfl), (Nat.le_of_ble_eq_true rfl)⟩) ⟨gP_blind, fun U hU hW => ⟨rfl, by rw [hU]; exact hP.sub (ws' := (w_0none q cI cJ cD)) [] rfl, gEv.warm hW hE⟩⟩ rfl rfl hl.1 rfl (lv_room (Nat.le_of_ble_eq_true rfl)) dX8_factorOver_8 ⟨Nat.zero_le _, Nat.zero_le _⟩) hP hS (gSub rfl) rfl rfl rfl rfl rfl (fun H locs hP hS => ?_)
  refine lv_aload_n hx hb dX8_factorOver_11 rfl (lv_at hl 0 rfl) ?_
  refine va_get (D := D) (ci := 6) (v := .ref (q 3)) (C := RX8) (T := TX8) (N := 6) hx hb hts huX8 hown hE.1 hP 0 rfl rfl 1 (by decide) hk19 (fun _ h9 => h9) rfl dX8_factorOver_12 ?_
  refine lv_aload_n hx hb dX8_factorOver_15 rfl (lv_at hl 0 rfl) ?_
  refine va_get (D := D) (ci := 6) (v := .ref (q 1)) (C := RX8) (T := TX8) (N := 6) hx hb hts huX8 hown hE.1 hP 0 rfl rfl 0 (by decide) hk10 (fun _ h9 => h9) rfl dX8_factorOver_16 ?_
  obtain ⟨⟨Fn19, Fa19⟩, hc, hf⟩ := bn_some hf
  try dsimp only at hf
  refine g_call0 (ws' := (w_0_1_2_3_4 q cI cJ cD Tn Ta Fn19 Fa19)) (st1 := []) hq [0, 1, 2, 3, 4] [1, 2, 3, 4] [.inr 0, .inl 0, .inl 1, .inl 2, .inl 3] (va_runV (As := [.ref (q 1)]) (rest := []) ⟨hx, hb, hml, hown, hts⟩ (kX1_find l D cI cJ cD q hq N Tn Ta Fn Fa Fn19 Fa19 hc) (cwV 1 hts gX8_factorOver_X1_find rfl rfl rfl (by decide +kernel) ⟨(Nat.le_of_ble_eq_true rfl), (Nat.le_of_ble_eq_true rfl)⟩) ⟨gP_blind, va_recv hE.1 hP (ci := 1) (q0 := 3) rfl rfl, fun U hU hW => ⟨rfl, by rw [hU]; exact hP.sub (ws' := (w_1_2_3_4 q cI cJ cD Tn Ta Fn Fa)) [1, 2, 3, 4] rfl, gEv.warm hW hE⟩⟩ rfl rfl hl.1 rfl (lv_room (Nat.le_of_ble_eq_true rfl)) dX8_factorOver_19 ⟨Nat.zero_le _, Nat.zero_le _⟩) hP hS (gSub rfl) rfl rfl rfl rfl rfl (fun H locs hP hS => ?_)
  refine lv_aload_n hx hb dX8_factorOver_22 rfl (lv_at hl 0 rfl) ?_
  refine va_get (D := D) (ci := 6) (v := .ref (q 3)) (C := RX8) (T := TX8) (N := 6) hx hb hts huX8 hown hE.1 hP 0 rfl rfl 1 (by decide) hk19 (fun _ h9 => h9) rfl dX8_factorOver_23 ?_
  refine lv_iload_n hx hb dX8_factorOver_26 rfl (lv_at hl 1 rfl) ?_
  obtain ⟨r27, hc, hf⟩ := bn_some hf
  try dsimp only at hf
  refine g_call0 (ws' := (w_0_1_2_3_4 q cI cJ cD Tn Ta Fn19 Fa19)) (st1 := [.int r27]) hq [0, 1, 2, 3, 4] [3, 4] [.inr 0, .inr 1, .inr 2, .inl 0, .inl 1] (va_runV (As := [.int p1]) (rest := []) ⟨hx, hb, hml, hown, hts⟩ (kX1_numberOver l D cI cJ cD q hq N Fn19 Fa19 p1 r27 hc) (cwV 1 hts gX8_factorOver_X1_numberOver rfl rfl rfl (by decide +kernel) ⟨(Nat.le_of_ble_eq_true rfl), (Nat.le_of_ble_eq_true rfl)⟩) ⟨gP_blind, va_recv hE.1 hP (ci := 1) (q0 := 3) rfl rfl, fun U hU hW => ⟨rfl, by rw [hU]; exact hP.sub (ws' := (w_3_4 q cI cJ cD Fn19 Fa19)) [3, 4] rfl, gEv.warm hW hE⟩⟩ rfl rfl hl.1 rfl (lv_room (Nat.le_of_ble_eq_true rfl)) dX8_factorOver_27 ⟨Nat.zero_le _, Nat.zero_le _⟩) hP hS (gSub rfl) rfl rfl rfl rfl rfl (fun H locs hP hS => ?_)
  exact nomatch hf
set_option maxHeartbeats 4000000 in
set_option maxRecDepth 100000 in
theorem kX8_longestLyndon (l : Launch) (D : va_G) (cI cJ cD : ClassId) (q : Nat → Nat) (hq : gInj q) (N : Nat) (Tn : Int32) (Ta : (Nat → Int32)) (p1 : Int32) (p2 : Int32) (r0 : Int32) (hf : fX8_longestLyndon N Tn Ta p1 p2 = some (.inr r0)) : Met l yX8_longestLyndon wsX8_longestLyndon rX8_longestLyndon (gP D cI cJ cD [.ref (q 0), .int p1, .int p2] (w_0_1_2 q cI cJ cD Tn Ta)) (gQ D (some (.int r0)) (w_0_1_2 q cI cJ cD Tn Ta) (gA q [0, 1, 2])) 0 0 (gA q [0, 1, 2]) := by
  refine Met.ofW (cc := cX8_longestLyndon) (maxL := 3) (ret := (some .int)) (by decide +kernel) rfl ?_
  intro p e s m args below meth c s₁ B hml hv
  obtain ⟨rfl, hP, hE⟩ := hv
  have hx := B.exec
  have hb := B.bytes
  have hr := B.returns
  have hts := atoms_spec (ws := wsX8_longestLyndon) B.pre
  have hown : s.vm.findClass RX8 = some m.cls := findClass_of_methodNamed B.named
  have hlocks := B.notSynchronized
  have hS : va_S (gA q [0, 1, 2]) s.heap s.heap [] := va_S.rf
  have hl := lv_entry ([.ref (q 0), .int p1, .int p2]) (n := 3) (Nat.le_of_ble_eq_true rfl)
  rw [lg_entry_eq]
  generalize (lg_sl ([.ref (q 0), .int p1, .int p2]) ++ List.replicate (3 - (lg_sl ([.ref (q 0), .int p1, .int p2])).length) Slot.unset).toArray = ls at hl ⊢
  have hl : lv_has ls 3 [(0, .ref (q 0)), (1, .int p1), (2, .int p2)] := hl
  have hk10 := hts (.fieldLink RX8 10 "LyndonText" "text" "LLyndonText$Letters;") (by decide +kernel)
  have huX8 : ∀ w ∈ u_ws RX8 TX8 6, w ∈ wsX8_longestLyndon := by decide +kernel
  unfold fX8_longestLyndon at hf
  refine lv_iload_n hx hb dX8_longestLyndon_0 rfl (lv_at hl 1 rfl) ?_
  refine lv_aload_n hx hb dX8_longestLyndon_1 rfl (lv_at hl 0 rfl) ?_
  refine va_get (D := D) (ci := 6) (v := .ref (q 1)) (C := RX8) (T := TX8) (N := 6) hx hb hts huX8 hown hE.1 hP 0 rfl rfl 0 (by decide) hk10 (fun _ h9 => h9) rfl dX8_longestLyndon_2 ?_
  obtain ⟨r5, hc, hf⟩ := bn_some hf
  try dsimp only at hf
  refine g_call0 (ws' := (w_0_1_2 q cI cJ cD Tn Ta)) (st1 := [.int r5, .int p1]) hq [0, 1, 2] [1] [.inr 0, .inl 0, .inr 2] (va_runV (As := []) (rest := [.int p1]) ⟨hx, hb, hml, hown, hts⟩ (kX2_count l D cI cJ cD q hq N Tn r5 hc) (cwV 0 hts gX8_longestLyndon_X2_count rfl rfl rfl (by decide +kernel) ⟨(Nat.le_of_ble_eq_true rfl), (Nat.le_of_ble_eq_true rfl)⟩) ⟨gP_blind, va_recv hE.1 hP (ci := 2) (q0 := 1) rfl rfl, fun U hU hW => ⟨rfl, by rw [hU]; exact hP.sub (ws' := (w_1 q cI cJ cD Tn)) [1] rfl, gEv.warm hW hE⟩⟩ rfl rfl hl.1 rfl (lv_room (Nat.le_of_ble_eq_true rfl)) dX8_longestLyndon_5 ⟨Nat.zero_le _, Nat.zero_le _⟩) hP hS (gSub rfl) rfl rfl rfl rfl rfl (fun H locs hP hS => ?_)
  rcases bx_some hf with ⟨e8, hc, hf⟩ | ⟨⟨⟩, hc, hf⟩
  · exact nomatch hf
  try dsimp only at hf
  refine g_call0 (ws' := (w_0_1_2 q cI cJ cD Tn Ta)) (st1 := []) hq [0, 1, 2] [] [.inr 0, .inr 1, .inr 2] (va_runS (As := [.int p1, .int r5]) (rest := []) ⟨hx, hb, hml, hown, hts⟩ (kX8_checkIndex l D cI cJ cD q hq N p1 r5 hc) (va_cwS 2 hts gX8_longestLyndon_X8_checkIndex rfl rfl rfl (by decide +kernel) ⟨(Nat.le_of_ble_eq_true rfl), (Nat.le_of_ble_eq_true rfl)⟩) ⟨gP_blind, fun U hU hW => ⟨rfl, by rw [hU]; exact hP.sub (ws' := (w_0none q cI cJ cD)) [] rfl, gEv.warm hW hE⟩⟩ rfl rfl hl.1 rfl (lv_room (Nat.le_of_ble_eq_true rfl)) dX8_longestLyndon_8 ⟨Nat.zero_le _, Nat.zero_le _⟩) hP hS (gSub rfl) rfl rfl rfl rfl rfl (fun H locs hP hS => ?_)
  refine lv_aload_n hx hb dX8_longestLyndon_11 rfl (lv_at hl 0 rfl) ?_
  refine va_get (D := D) (ci := 6) (v := .ref (q 1)) (C := RX8) (T := TX8) (N := 6) hx hb hts huX8 hown hE.1 hP 0 rfl rfl 0 (by decide) hk10 (fun _ h9 => h9) rfl dX8_longestLyndon_12 ?_
  refine lv_iload_n hx hb dX8_longestLyndon_15 rfl (lv_at hl 1 rfl) ?_
  refine lv_aload_n hx hb dX8_longestLyndon_16 rfl (lv_at hl 0 rfl) ?_
  refine va_get (D := D) (ci := 6) (v := .ref (q 1)) (C := RX8) (T := TX8) (N := 6) hx hb hts huX8 hown hE.1 hP 0 rfl rfl 0 (by decide) hk10 (fun _ h9 => h9) rfl dX8_longestLyndon_17 ?_
  obtain ⟨r20, hc, hf⟩ := bn_some hf
  try dsimp only at hf
  refine g_call0 (ws' := (w_0_1_2 q cI cJ cD Tn Ta)) (st1 := [.int r20, .int p1, .ref (q 1)]) hq [0, 1, 2] [1] [.inr 0, .inl 0, .inr 2] (va_runV (As := []) (rest := [.int p1, .ref (q 1)]) ⟨hx, hb, hml, hown, hts⟩ (kX2_count l D cI cJ cD q hq N Tn r20 hc) (cwV 0 hts gX8_longestLyndon_X2_count rfl rfl rfl (by decide +kernel) ⟨(Nat.le_of_ble_eq_true rfl), (Nat.le_of_ble_eq_true rfl)⟩) ⟨gP_blind, va_recv hE.1 hP (ci := 2) (q0 := 1) rfl rfl, fun U hU hW => ⟨rfl, by rw [hU]; exact hP.sub (ws' := (w_1 q cI cJ cD Tn)) [1] rfl, gEv.warm hW hE⟩⟩ rfl rfl hl.1 rfl (lv_room (Nat.le_of_ble_eq_true rfl)) dX8_longestLyndon_20 ⟨Nat.zero_le _, Nat.zero_le _⟩) hP hS (gSub rfl) rfl rfl rfl rfl rfl (fun H locs hP hS => ?_)
  refine lv_iload_n hx hb dX8_longestLyndon_23 rfl (lv_at hl 2 rfl) ?_
  obtain ⟨r24, hc, hf⟩ := bn_some hf
  try dsimp only at hf
  refine g_call0 (ws' := (w_0_1_2 q cI cJ cD Tn Ta)) (st1 := [.int r24]) hq [0, 1, 2] [1, 2] [.inr 0, .inl 0, .inl 1] (va_runS (As := [.ref (q 1), .int p1, .int r20, .int p2]) (rest := []) ⟨hx, hb, hml, hown, hts⟩ (kX1_firstLength l D cI cJ cD q hq N Tn Ta p1 r20 p2 r24 hc) (va_cwS 4 hts gX8_longestLyndon_X1_firstLength rfl rfl rfl (by decide +kernel) ⟨(Nat.le_of_ble_eq_true rfl), (Nat.le_of_ble_eq_true rfl)⟩) ⟨gP_blind, fun U hU hW => ⟨rfl, by rw [hU]; exact hP.sub (ws' := (w_1_2 q cI cJ cD Tn Ta)) [1, 2] rfl, gEv.warm hW hE⟩⟩ rfl rfl hl.1 rfl (lv_room (Nat.le_of_ble_eq_true rfl)) dX8_longestLyndon_24 ⟨Nat.zero_le _, Nat.zero_le _⟩) hP hS (gSub rfl) rfl rfl rfl rfl rfl (fun H locs hP hS => ?_)
  cases hf
  exact W.iret hx hb hr (fun t ht hW => ⟨⟨rfl, by rw [ht]; exact hP⟩, hS.F ht⟩) hS.2.2 dX8_longestLyndon_27
set_option maxHeartbeats 4000000 in
set_option maxRecDepth 100000 in
theorem kX8_longestLyndonx (l : Launch) (hlt : l.stackTraces = false) (D : va_G) (cI cJ cD : ClassId) (sa : Nat → Nat) (q : Nat → Nat) (hq : gInj q) (N : Nat) (Tn : Int32) (Ta : (Nat → Int32)) (p1 : Int32) (p2 : Int32) (e0 : Nat) (hf : fX8_longestLyndon N Tn Ta p1 p2 = some (.inl e0)) : vx_Met l yX8_longestLyndon wsX8_longestLyndon rX8_longestLyndonx (gPx D cI cJ cD sa (gA q [0, 1, 2]) [.ref (q 0), .int p1, .int p2] (w_0_1_2 q cI cJ cD Tn Ta)) (fun _ _ _ _ => False) (gX D (gEn e0) (w_0_1_2 q cI cJ cD Tn Ta) (gA q [0, 1, 2])) 1 6 (gA q [0, 1, 2]) := by
  refine vx_ofW (cc := cX8_longestLyndon) (maxL := 3) (ret := (some .int)) (by decide +kernel) rfl ?_
  intro p e s m args below meth c s₁ B hml htab hv
  obtain ⟨rfl, hP, hE, hXe⟩ := hv
  have hx := B.exec
  have hb := B.bytes
  have hr := B.returns
  have hts := atoms_spec (ws := wsX8_longestLyndon) B.pre
  have hown : s.vm.findClass RX8 = some m.cls := findClass_of_methodNamed B.named
  have hlocks := B.notSynchronized
  have hS : va_S (gA q [0, 1, 2]) s.heap s.heap [] := va_S.rf
  have hl := lv_entry ([.ref (q 0), .int p1, .int p2]) (n := 3) (Nat.le_of_ble_eq_true rfl)
  rw [lg_entry_eq]
  generalize (lg_sl ([.ref (q 0), .int p1, .int p2]) ++ List.replicate (3 - (lg_sl ([.ref (q 0), .int p1, .int p2])).length) Slot.unset).toArray = ls at hl ⊢
  have hl : lv_has ls 3 [(0, .ref (q 0)), (1, .int p1), (2, .int p2)] := hl
  have hk10 := hts (.fieldLink RX8 10 "LyndonText" "text" "LLyndonText$Letters;") (by decide +kernel)
  have huX8 : ∀ w ∈ u_ws RX8 TX8 6, w ∈ wsX8_longestLyndon := by decide +kernel
  unfold fX8_longestLyndon at hf
  refine lv_iload_n hx hb dX8_longestLyndon_0 rfl (lv_at hl 1 rfl) ?_
  refine lv_aload_n hx hb dX8_longestLyndon_1 rfl (lv_at hl 0 rfl) ?_
  refine va_get (D := D) (ci := 6) (v := .ref (q 1)) (C := RX8) (T := TX8) (N := 6) hx hb hts huX8 hown hE.1 hP 0 rfl rfl 0 (by decide) hk10 (fun _ h9 => h9) rfl dX8_longestLyndon_2 ?_
  obtain ⟨r5, hc, hf⟩ := bn_some hf
  try dsimp only at hf
  refine g_call0 (ws' := (w_0_1_2 q cI cJ cD Tn Ta)) (st1 := [.int r5, .int p1]) hq [0, 1, 2] [1] [.inr 0, .inl 0, .inr 2] (va_runV (As := []) (rest := [.int p1]) ⟨hx, hb, hml, hown, hts⟩ (kX2_count l D cI cJ cD q hq N Tn r5 hc) (cwV 0 hts gX8_longestLyndon_X2_count rfl rfl rfl (by decide +kernel) ⟨(Nat.le_of_ble_eq_true rfl), (Nat.le_of_ble_eq_true rfl)⟩) ⟨gP_blind, va_recv hE.1 hP (ci := 2) (q0 := 1) rfl rfl, fun U hU hW => ⟨rfl, by rw [hU]; exact hP.sub (ws' := (w_1 q cI cJ cD Tn)) [1] rfl, gEv.warm hW hE⟩⟩ rfl rfl hl.1 rfl (lv_room (Nat.le_of_ble_eq_true rfl)) dX8_longestLyndon_5 ⟨Nat.zero_le _, Nat.zero_le _⟩) hP hS (gSub rfl) rfl rfl rfl rfl rfl (fun H locs hP hS => ?_)
  rcases bx_some hf with ⟨e8, hc, hf⟩ | ⟨⟨⟩, hc, hf⟩
  · try dsimp only at hf
    refine g_callX (ws' := (w_0_1_2 q cI cJ cD Tn Ta)) hq [0, 1, 2] [] [.inr 0, .inr 1, .inr 2] (vx_runS (As := [.int p1, .int r5]) (rest := []) ⟨hx, hb, hml, hown, hts⟩ (kX8_checkIndexx l hlt D cI cJ cD sa q hq N p1 r5 e8 hc) (va_cwS 2 hts gX8_longestLyndon_X8_checkIndex rfl rfl rfl (by decide +kernel) ⟨(Nat.le_of_ble_eq_true rfl), (Nat.le_of_ble_eq_true rfl)⟩) ⟨gPx_blind, fun U hU hW => ⟨rfl, by rw [hU]; exact hP.sub (ws' := (w_0none q cI cJ cD)) [] rfl, gEv.warm hW hE, gXe.go hW hS (gMono rfl) hXe hU⟩⟩ rfl rfl hl.1 rfl (lv_room (Nat.le_of_ble_eq_true rfl)) dX8_longestLyndon_8 ⟨(Nat.le_of_ble_eq_true rfl), (Nat.le_of_ble_eq_true rfl)⟩) hP hS (gSub rfl) rfl rfl rfl rfl (fun ce q9 H locs hP hS hce hcv hcl => ?_)
    cases hf
    exact vx_out (fun x9 hx9 => (htab x9 hx9).elim) hlocks hce hcv hcl (fun t ht hv => ⟨rfl, by rw [ht]; exact hP, hS.F ht⟩) hS.2.2 (Nat.le_of_ble_eq_true rfl) (Nat.le_of_ble_eq_true rfl)
  try dsimp only at hf
  refine g_call0 (ws' := (w_0_1_2 q cI cJ cD Tn Ta)) (st1 := []) hq [0, 1, 2] [] [.inr 0, .inr 1, .inr 2] (va_runS (As := [.int p1, .int r5]) (rest := []) ⟨hx, hb, hml, hown, hts⟩ (kX8_checkIndex l D cI cJ cD q hq N p1 r5 hc) (va_cwS 2 hts gX8_longestLyndon_X8_checkIndex rfl rfl rfl (by decide +kernel) ⟨(Nat.le_of_ble_eq_true rfl), (Nat.le_of_ble_eq_true rfl)⟩) ⟨gP_blind, fun U hU hW => ⟨rfl, by rw [hU]; exact hP.sub (ws' := (w_0none q cI cJ cD)) [] rfl, gEv.warm hW hE⟩⟩ rfl rfl hl.1 rfl (lv_room (Nat.le_of_ble_eq_true rfl)) dX8_longestLyndon_8 ⟨Nat.zero_le _, Nat.zero_le _⟩) hP hS (gSub rfl) rfl rfl rfl rfl rfl (fun H locs hP hS => ?_)
  refine lv_aload_n hx hb dX8_longestLyndon_11 rfl (lv_at hl 0 rfl) ?_
  refine va_get (D := D) (ci := 6) (v := .ref (q 1)) (C := RX8) (T := TX8) (N := 6) hx hb hts huX8 hown hE.1 hP 0 rfl rfl 0 (by decide) hk10 (fun _ h9 => h9) rfl dX8_longestLyndon_12 ?_
  refine lv_iload_n hx hb dX8_longestLyndon_15 rfl (lv_at hl 1 rfl) ?_
  refine lv_aload_n hx hb dX8_longestLyndon_16 rfl (lv_at hl 0 rfl) ?_
  refine va_get (D := D) (ci := 6) (v := .ref (q 1)) (C := RX8) (T := TX8) (N := 6) hx hb hts huX8 hown hE.1 hP 0 rfl rfl 0 (by decide) hk10 (fun _ h9 => h9) rfl dX8_longestLyndon_17 ?_
  obtain ⟨r20, hc, hf⟩ := bn_some hf
  try dsimp only at hf
  refine g_call0 (ws' := (w_0_1_2 q cI cJ cD Tn Ta)) (st1 := [.int r20, .int p1, .ref (q 1)]) hq [0, 1, 2] [1] [.inr 0, .inl 0, .inr 2] (va_runV (As := []) (rest := [.int p1, .ref (q 1)]) ⟨hx, hb, hml, hown, hts⟩ (kX2_count l D cI cJ cD q hq N Tn r20 hc) (cwV 0 hts gX8_longestLyndon_X2_count rfl rfl rfl (by decide +kernel) ⟨(Nat.le_of_ble_eq_true rfl), (Nat.le_of_ble_eq_true rfl)⟩) ⟨gP_blind, va_recv hE.1 hP (ci := 2) (q0 := 1) rfl rfl, fun U hU hW => ⟨rfl, by rw [hU]; exact hP.sub (ws' := (w_1 q cI cJ cD Tn)) [1] rfl, gEv.warm hW hE⟩⟩ rfl rfl hl.1 rfl (lv_room (Nat.le_of_ble_eq_true rfl)) dX8_longestLyndon_20 ⟨Nat.zero_le _, Nat.zero_le _⟩) hP hS (gSub rfl) rfl rfl rfl rfl rfl (fun H locs hP hS => ?_)
  refine lv_iload_n hx hb dX8_longestLyndon_23 rfl (lv_at hl 2 rfl) ?_
  obtain ⟨r24, hc, hf⟩ := bn_some hf
  try dsimp only at hf
  refine g_call0 (ws' := (w_0_1_2 q cI cJ cD Tn Ta)) (st1 := [.int r24]) hq [0, 1, 2] [1, 2] [.inr 0, .inl 0, .inl 1] (va_runS (As := [.ref (q 1), .int p1, .int r20, .int p2]) (rest := []) ⟨hx, hb, hml, hown, hts⟩ (kX1_firstLength l D cI cJ cD q hq N Tn Ta p1 r20 p2 r24 hc) (va_cwS 4 hts gX8_longestLyndon_X1_firstLength rfl rfl rfl (by decide +kernel) ⟨(Nat.le_of_ble_eq_true rfl), (Nat.le_of_ble_eq_true rfl)⟩) ⟨gP_blind, fun U hU hW => ⟨rfl, by rw [hU]; exact hP.sub (ws' := (w_1_2 q cI cJ cD Tn Ta)) [1, 2] rfl, gEv.warm hW hE⟩⟩ rfl rfl hl.1 rfl (lv_room (Nat.le_of_ble_eq_true rfl)) dX8_longestLyndon_24 ⟨Nat.zero_le _, Nat.zero_le _⟩) hP hS (gSub rfl) rfl rfl rfl rfl rfl (fun H locs hP hS => ?_)
  exact nomatch hf
set_option maxHeartbeats 4000000 in
set_option maxRecDepth 100000 in
theorem kX8_standardFactor (l : Launch) (D : va_G) (cI cJ cD : ClassId) (q : Nat → Nat) (hq : gInj q) (N : Nat) (Tn : Int32) (Ta : (Nat → Int32)) (p1 : Int32) (p2 : Int32) (r0 : Int32) (hf : fX8_standardFactor N Tn Ta p1 p2 = some (.inr r0)) : Met l yX8_standardFactor wsX8_standardFactor rX8_standardFactor (gP D cI cJ cD [.ref (q 0), .int p1, .int p2] (w_0_1_2 q cI cJ cD Tn Ta)) (gQ D (some (.int r0)) (w_0_1_2 q cI cJ cD Tn Ta) (gA q [0, 1, 2])) 0 0 (gA q [0, 1, 2]) := by
  refine Met.ofW (cc := cX8_standardFactor) (maxL := 4) (ret := (some .int)) (by decide +kernel) rfl ?_
  intro p e s m args below meth c s₁ B hml hv
  obtain ⟨rfl, hP, hE⟩ := hv
  have hx := B.exec
  have hb := B.bytes
  have hr := B.returns
  have hts := atoms_spec (ws := wsX8_standardFactor) B.pre
  have hown : s.vm.findClass RX8 = some m.cls := findClass_of_methodNamed B.named
  have hlocks := B.notSynchronized
  have hS : va_S (gA q [0, 1, 2]) s.heap s.heap [] := va_S.rf
  have hl := lv_entry ([.ref (q 0), .int p1, .int p2]) (n := 4) (Nat.le_of_ble_eq_true rfl)
  rw [lg_entry_eq]
  generalize (lg_sl ([.ref (q 0), .int p1, .int p2]) ++ List.replicate (4 - (lg_sl ([.ref (q 0), .int p1, .int p2])).length) Slot.unset).toArray = ls at hl ⊢
  have hl : lv_has ls 4 [(0, .ref (q 0)), (1, .int p1), (2, .int p2)] := hl
  have hk10 := hts (.fieldLink RX8 10 "LyndonText" "text" "LLyndonText$Letters;") (by decide +kernel)
  have huX8 : ∀ w ∈ u_ws RX8 TX8 6, w ∈ wsX8_standardFactor := by decide +kernel
  have J25 : ∀ (_ : Unit), fX8_standardFactor_J25 N Tn Ta = some (.inr r0) → ∀ (H : Heap) (locs : List Loc), va_P D vwCl (w_0_1_2 q cI cJ cD Tn Ta) H → va_S (gA q [0, 1, 2]) s.heap H locs → ∀ ls : Array Slot, lv_has ls 4 [] → W p l e (headSpec wsX8_standardFactor rX8_standardFactor).room s m ([.ref (q 0), .int p1, .int p2] : List Value).toArray below meth c H locs 0 0 (MQ below (gQ D (some (.int r0)) (w_0_1_2 q cI cJ cD Tn Ta) (gA q [0, 1, 2])) ([.ref (q 0), .int p1, .int p2] : List Value).toArray s 0 0 (gA q [0, 1, 2])) (F0 m 25 ls []) := by
    intro _ hf H locs hP hS ls hl
    unfold fX8_standardFactor_J25 at hf
    exact nomatch hf
  have J64 : ∀ (x3 : Int32), fX8_standardFactor_J64 N Tn Ta x3 = some (.inr r0) → ∀ (H : Heap) (locs : List Loc), va_P D vwCl (w_0_1_2 q cI cJ cD Tn Ta) H → va_S (gA q [0, 1, 2]) s.heap H locs → ∀ ls : Array Slot, lv_has ls 4 [(3, .int x3)] → W p l e (headSpec wsX8_standardFactor rX8_standardFactor).room s m ([.ref (q 0), .int p1, .int p2] : List Value).toArray below meth c H locs 0 0 (MQ below (gQ D (some (.int r0)) (w_0_1_2 q cI cJ cD Tn Ta) (gA q [0, 1, 2])) ([.ref (q 0), .int p1, .int p2] : List Value).toArray s 0 0 (gA q [0, 1, 2])) (F0 m 64 ls []) := by
    intro x3 hf H locs hP hS ls hl
    unfold fX8_standardFactor_J64 at hf
    refine lv_iload_n hx hb dX8_standardFactor_64 rfl (lv_at hl 0 rfl) ?_
    cases hf
    exact W.iret hx hb hr (fun t ht hW => ⟨⟨rfl, by rw [ht]; exact hP⟩, hS.F ht⟩) hS.2.2 dX8_standardFactor_65
  have K39 : ∀ (n39 : Nat) (x2 : Int32) (x3 : Int32), fX8_standardFactor_H39 N Tn Ta n39 x2 x3 = some (.inr r0) → ∀ (H : Heap) (locs : List Loc), va_P D vwCl (w_0_1_2 q cI cJ cD Tn Ta) H → va_S (gA q [0, 1, 2]) s.heap H locs → ∀ ls : Array Slot, lv_has ls 4 [(0, .ref (q 0)), (2, .int x2), (3, .int x3)] → W p l e (headSpec wsX8_standardFactor rX8_standardFactor).room s m ([.ref (q 0), .int p1, .int p2] : List Value).toArray below meth c H locs 0 0 (MQ below (gQ D (some (.int r0)) (w_0_1_2 q cI cJ cD Tn Ta) (gA q [0, 1, 2])) ([.ref (q 0), .int p1, .int p2] : List Value).toArray s 0 0 (gA q [0, 1, 2])) (F0 m 39 ls []) := by
    intro n39
    induction n39 with
    | zero =>
      intro x2 x3 hf
      exact nomatch (show (none : Option (Nat ⊕ Int32)) = some (.inr r0) from hf)
    | succ n39 ih39 =>
      intro x2 x3 hf H locs hP hS ls hl
      have hf : fX8_standardFactor_B39 N Tn Ta (fX8_standardFactor_H39 N Tn Ta n39) x2 x3 = some (.inr r0) := hf
      unfold fX8_standardFactor_B39 at hf
      refine lv_iload_n hx hb dX8_standardFactor_39 rfl (lv_at hl 2 rfl) ?_
      refine lv_iload_n hx hb dX8_standardFactor_40 rfl (lv_at hl 1 rfl) ?_
      refine lv_iconst (v := (1 : Int32)) hx hb dX8_standardFactor_41 (by decide) ?_
      refine lv_isub hx hb dX8_standardFactor_42 ?_
      refine lv_icmp_ge (tgt := 64) hx hb dX8_standardFactor_43 (by decide) (fun c_1 => ?_) (fun c_1 => ?_)
      · have hf := (if_pos c_1).symm.trans hf
        exact J64 x3 hf _ _ hP hS _ (lv_sub hl [2] rfl)
      · have hf := (if_neg c_1).symm.trans hf
        refine lv_aload_n hx hb dX8_standardFactor_46 rfl (lv_at hl 0 rfl) ?_
        refine va_get (D := D) (ci := 6) (v := .ref (q 1)) (C := RX8) (T := TX8) (N := 6) hx hb hts huX8 hown hE.1 hP 0 rfl rfl 0 (by decide) hk10 (fun _ h9 => h9) rfl dX8_standardFactor_47 ?_
        refine lv_iload_n hx hb dX8_standardFactor_50 rfl (lv_at hl 2 rfl) ?_
        refine lv_iload_n hx hb dX8_standardFactor_51 rfl (lv_at hl 1 rfl) ?_
        obtain ⟨r52, hc, hf⟩ := bn_some hf
        try dsimp only at hf
        refine g_call0 (ws' := (w_0_1_2 q cI cJ cD Tn Ta)) (st1 := [.int r52]) hq [0, 1, 2] [1, 2] [.inr 0, .inl 0, .inl 1] (va_runS (As := [.ref (q 1), .int x3, .int x2]) (rest := []) ⟨hx, hb, hml, hown, hts⟩ (kX1_isOneFactor l D cI cJ cD q hq N Tn Ta x3 x2 r52 hc) (va_cwS 3 hts gX8_standardFactor_X1_isOneFactor rfl rfl rfl (by decide +kernel) ⟨(Nat.le_of_ble_eq_true rfl), (Nat.le_of_ble_eq_true rfl)⟩) ⟨gP_blind, fun U hU hW => ⟨rfl, by rw [hU]; exact hP.sub (ws' := (w_1_2 q cI cJ cD Tn Ta)) [1, 2] rfl, gEv.warm hW hE⟩⟩ rfl rfl hl.1 rfl (lv_room (Nat.le_of_ble_eq_true rfl)) dX8_standardFactor_52 ⟨Nat.zero_le _, Nat.zero_le _⟩) hP hS (gSub rfl) rfl rfl rfl rfl rfl (fun H locs hP hS => ?_)
        refine lv_if_ne (tgt := 64) hx hb dX8_standardFactor_55 (by decide) (fun c_2 => ?_) (fun c_2 => ?_)
        · have hf := (if_neg c_2).symm.trans hf
          exact J64 x3 hf _ _ hP hS _ (lv_sub hl [2] rfl)
        · have hf := (if_pos c_2).symm.trans hf
          refine lv_iinc (v := (x3 + 1)) (lv' := [(3, .int (x3 + 1)), (0, .ref (q 0)), (2, .int x2)]) hx hb dX8_standardFactor_58 hl (k := 2) rfl rfl (by decide) rfl (fun ls hl => ?_)
          refine lv_goto (tgt := 39) hx hb dX8_standardFactor_61 (by decide) ?_
          exact ih39 x2 (x3 + 1) hf _ _ hP hS _ (lv_sub hl [1, 2, 0] rfl)
  unfold fX8_standardFactor at hf
  refine lv_aload_n hx hb dX8_standardFactor_0 rfl (lv_at hl 0 rfl) ?_
  refine lv_iload_n hx hb dX8_standardFactor_1 rfl (lv_at hl 1 rfl) ?_
  refine lv_iload_n hx hb dX8_standardFactor_2 rfl (lv_at hl 2 rfl) ?_
  rcases bx_some hf with ⟨e3, hc, hf⟩ | ⟨⟨⟩, hc, hf⟩
  · exact nomatch hf
  try dsimp only at hf
  refine g_call0 (ws' := (w_0_1_2 q cI cJ cD Tn Ta)) (st1 := []) hq [0, 1, 2] [0, 1] [.inl 0, .inl 1, .inr 2] (va_runV (As := [.int p1, .int p2]) (rest := []) ⟨hx, hb, hml, hown, hts⟩ (kX8_checkPart l D cI cJ cD q hq N Tn p1 p2 hc) (cwV 2 hts gX8_standardFactor_X8_checkPart rfl rfl rfl (by decide +kernel) ⟨(Nat.le_of_ble_eq_true rfl), (Nat.le_of_ble_eq_true rfl)⟩) ⟨gP_blind, va_recv hE.1 hP (ci := 6) (q0 := 0) rfl rfl, fun U hU hW => ⟨rfl, by rw [hU]; exact hP.sub (ws' := (w_0_1 q cI cJ cD Tn)) [0, 1] rfl, gEv.warm hW hE⟩⟩ rfl rfl hl.1 rfl (lv_room (Nat.le_of_ble_eq_true rfl)) dX8_standardFactor_3 ⟨Nat.zero_le _, Nat.zero_le _⟩) hP hS (gSub rfl) rfl rfl rfl rfl rfl (fun H locs hP hS => ?_)
  refine lv_iload_n hx hb dX8_standardFactor_6 rfl (lv_at hl 2 rfl) ?_
  refine lv_iload_n hx hb dX8_standardFactor_7 rfl (lv_at hl 1 rfl) ?_
  refine lv_isub hx hb dX8_standardFactor_8 ?_
  refine lv_iconst (v := (1 : Int32)) hx hb dX8_standardFactor_9 (by decide) ?_
  refine lv_icmp_eq (tgt := 25) hx hb dX8_standardFactor_10 (by decide) (fun c_3 => ?_) (fun c_3 => ?_)
  · have hf := (if_pos c_3).symm.trans hf
    exact J25 () hf _ _ hP hS _ (lv_sub hl [] rfl)
  · have hf := (if_neg c_3).symm.trans hf
    refine lv_aload_n hx hb dX8_standardFactor_13 rfl (lv_at hl 0 rfl) ?_
    refine va_get (D := D) (ci := 6) (v := .ref (q 1)) (C := RX8) (T := TX8) (N := 6) hx hb hts huX8 hown hE.1 hP 0 rfl rfl 0 (by decide) hk10 (fun _ h9 => h9) rfl dX8_standardFactor_14 ?_
    refine lv_iload_n hx hb dX8_standardFactor_17 rfl (lv_at hl 1 rfl) ?_
    refine lv_iload_n hx hb dX8_standardFactor_18 rfl (lv_at hl 2 rfl) ?_
    obtain ⟨r19, hc, hf⟩ := bn_some hf
    try dsimp only at hf
    refine g_call0 (ws' := (w_0_1_2 q cI cJ cD Tn Ta)) (st1 := [.int r19]) hq [0, 1, 2] [1, 2] [.inr 0, .inl 0, .inl 1] (va_runS (As := [.ref (q 1), .int p1, .int p2]) (rest := []) ⟨hx, hb, hml, hown, hts⟩ (kX1_isOneFactor l D cI cJ cD q hq N Tn Ta p1 p2 r19 hc) (va_cwS 3 hts gX8_standardFactor_X1_isOneFactor rfl rfl rfl (by decide +kernel) ⟨(Nat.le_of_ble_eq_true rfl), (Nat.le_of_ble_eq_true rfl)⟩) ⟨gP_blind, fun U hU hW => ⟨rfl, by rw [hU]; exact hP.sub (ws' := (w_1_2 q cI cJ cD Tn Ta)) [1, 2] rfl, gEv.warm hW hE⟩⟩ rfl rfl hl.1 rfl (lv_room (Nat.le_of_ble_eq_true rfl)) dX8_standardFactor_19 ⟨Nat.zero_le _, Nat.zero_le _⟩) hP hS (gSub rfl) rfl rfl rfl rfl rfl (fun H locs hP hS => ?_)
    refine lv_if_ne (tgt := 35) hx hb dX8_standardFactor_22 (by decide) (fun c_4 => ?_) (fun c_4 => ?_)
    · have hf := (if_neg c_4).symm.trans hf
      refine lv_iload_n hx hb dX8_standardFactor_35 rfl (lv_at hl 1 rfl) ?_
      refine lv_iconst (v := (1 : Int32)) hx hb dX8_standardFactor_36 (by decide) ?_
      refine lv_iadd hx hb dX8_standardFactor_37 ?_
      refine lv_istore_n (lv' := [(3, .int (p1 + (1 : Int32))), (0, .ref (q 0)), (1, .int p1), (2, .int p2)]) hx hb dX8_standardFactor_38 rfl hl (by decide) rfl (fun ls hl => ?_)
      exact K39 N p2 (p1 + (1 : Int32)) hf _ _ hP hS _ (lv_sub hl [1, 3, 0] rfl)
    · have hf := (if_pos c_4).symm.trans hf
      exact J25 () hf _ _ hP hS _ (lv_sub hl [] rfl)
set_option maxHeartbeats 4000000 in
set_option maxRecDepth 100000 in
theorem kX8_standardFactorx (l : Launch) (hlt : l.stackTraces = false) (D : va_G) (cI cJ cD : ClassId) (sa : Nat → Nat) (q : Nat → Nat) (hq : gInj q) (N : Nat) (Tn : Int32) (Ta : (Nat → Int32)) (p1 : Int32) (p2 : Int32) (e0 : Nat) (hf : fX8_standardFactor N Tn Ta p1 p2 = some (.inl e0)) : vx_Met l yX8_standardFactor wsX8_standardFactor rX8_standardFactorx (gPx D cI cJ cD sa (gA q [0, 1, 2]) [.ref (q 0), .int p1, .int p2] (w_0_1_2 q cI cJ cD Tn Ta)) (fun _ _ _ _ => False) (gX D (gEn e0) (w_0_1_2 q cI cJ cD Tn Ta) (gA q [0, 1, 2])) 1 6 (gA q [0, 1, 2]) := by
  refine vx_ofW (cc := cX8_standardFactor) (maxL := 4) (ret := (some .int)) (by decide +kernel) rfl ?_
  intro p e s m args below meth c s₁ B hml htab hv
  obtain ⟨rfl, hP, hE, hXe⟩ := hv
  have hx := B.exec
  have hb := B.bytes
  have hr := B.returns
  have hts := atoms_spec (ws := wsX8_standardFactor) B.pre
  have hown : s.vm.findClass RX8 = some m.cls := findClass_of_methodNamed B.named
  have hlocks := B.notSynchronized
  have hS : va_S (gA q [0, 1, 2]) s.heap s.heap [] := va_S.rf
  have hl := lv_entry ([.ref (q 0), .int p1, .int p2]) (n := 4) (Nat.le_of_ble_eq_true rfl)
  rw [lg_entry_eq]
  generalize (lg_sl ([.ref (q 0), .int p1, .int p2]) ++ List.replicate (4 - (lg_sl ([.ref (q 0), .int p1, .int p2])).length) Slot.unset).toArray = ls at hl ⊢
  have hl : lv_has ls 4 [(0, .ref (q 0)), (1, .int p1), (2, .int p2)] := hl
  have hk10 := hts (.fieldLink RX8 10 "LyndonText" "text" "LLyndonText$Letters;") (by decide +kernel)
  have huX8 : ∀ w ∈ u_ws RX8 TX8 6, w ∈ wsX8_standardFactor := by decide +kernel
  have J25 : ∀ (_ : Unit), fX8_standardFactor_J25 N Tn Ta = some (.inl e0) → ∀ (H : Heap) (locs : List Loc), va_P D vwCl (w_0_1_2 q cI cJ cD Tn Ta) H → va_S (gA q [0, 1, 2]) s.heap H locs → ∀ ls : Array Slot, lv_has ls 4 [] → W p l e (headSpec wsX8_standardFactor rX8_standardFactorx).room s m ([.ref (q 0), .int p1, .int p2] : List Value).toArray below meth c H locs 0 0 (vx_MQ below (fun _ _ _ _ => False) (gX D (gEn e0) (w_0_1_2 q cI cJ cD Tn Ta) (gA q [0, 1, 2])) ([.ref (q 0), .int p1, .int p2] : List Value).toArray s 1 6 (gA q [0, 1, 2])) (F0 m 25 ls []) := by
    intro _ hf H locs hP hS ls hl
    unfold fX8_standardFactor_J25 at hf
    cases hf
    exact vx_throwS (own := RX8) (cls := "java/lang/IllegalStateException") (text := "the part is no Lyndon word of two letters or more") (names := ["java/lang/RuntimeException", "java/lang/Exception"]) (ik := 89) (is := 166) (ic := 93) (sa := sa 166) (A := (gA q [0, 1, 2])) hx hb hlt hown (by decide +kernel) (by decide +kernel) (hts (.classLink RX8 89 "java/lang/IllegalStateException") (by decide +kernel)) (hts (.initialized "java/lang/IllegalStateException") (by decide +kernel)) (hXe.1.1 (166, "the part is no Lyndon word of two letters or more") (by decide +kernel)) (vx_hat (B := gB "java/lang/IllegalStateException") (fun w h => hts w (gw_X8_standardFactor_25 w h)) (gwB_X8_standardFactor_25) (gB_ok hXe.1 (cls := "java/lang/IllegalStateException") (by decide +kernel))) (gwg_X8_standardFactor_25) hXe.2.1 hXe.2.2 hS (hl.1.trans hml.symm) dX8_standardFactor_25 dX8_standardFactor_28 dX8_standardFactor_29 dX8_standardFactor_31 dX8_standardFactor_34 (fun x9 hx9 => (htab x9 hx9).elim) (Nat.le_of_ble_eq_true rfl) (Nat.le_of_ble_eq_true rfl) (Nat.le_of_ble_eq_true rfl) (Nat.le_of_ble_eq_true rfl) hlocks (fun t hv hz hk => ⟨rfl, hP.kept (fun k9 x9 hx9 => hk x9.1 ((hP k9 x9 hx9).lt)), ⟨Nat.le_trans hS.1 hz, fun a9 h1 hn => (hk a9 (Nat.lt_of_lt_of_le h1 hS.1)).trans (hS.2.1 a9 h1 hn)⟩⟩) hS.2.2 (Nat.le_of_ble_eq_true rfl) (Nat.le_of_ble_eq_true rfl)
  have J64 : ∀ (x3 : Int32), fX8_standardFactor_J64 N Tn Ta x3 = some (.inl e0) → ∀ (H : Heap) (locs : List Loc), va_P D vwCl (w_0_1_2 q cI cJ cD Tn Ta) H → va_S (gA q [0, 1, 2]) s.heap H locs → ∀ ls : Array Slot, lv_has ls 4 [(3, .int x3)] → W p l e (headSpec wsX8_standardFactor rX8_standardFactorx).room s m ([.ref (q 0), .int p1, .int p2] : List Value).toArray below meth c H locs 0 0 (vx_MQ below (fun _ _ _ _ => False) (gX D (gEn e0) (w_0_1_2 q cI cJ cD Tn Ta) (gA q [0, 1, 2])) ([.ref (q 0), .int p1, .int p2] : List Value).toArray s 1 6 (gA q [0, 1, 2])) (F0 m 64 ls []) := by
    intro x3 hf H locs hP hS ls hl
    unfold fX8_standardFactor_J64 at hf
    refine lv_iload_n hx hb dX8_standardFactor_64 rfl (lv_at hl 0 rfl) ?_
    exact nomatch hf
  have K39 : ∀ (n39 : Nat) (x2 : Int32) (x3 : Int32), fX8_standardFactor_H39 N Tn Ta n39 x2 x3 = some (.inl e0) → ∀ (H : Heap) (locs : List Loc), va_P D vwCl (w_0_1_2 q cI cJ cD Tn Ta) H → va_S (gA q [0, 1, 2]) s.heap H locs → ∀ ls : Array Slot, lv_has ls 4 [(0, .ref (q 0)), (2, .int x2), (3, .int x3)] → W p l e (headSpec wsX8_standardFactor rX8_standardFactorx).room s m ([.ref (q 0), .int p1, .int p2] : List Value).toArray below meth c H locs 0 0 (vx_MQ below (fun _ _ _ _ => False) (gX D (gEn e0) (w_0_1_2 q cI cJ cD Tn Ta) (gA q [0, 1, 2])) ([.ref (q 0), .int p1, .int p2] : List Value).toArray s 1 6 (gA q [0, 1, 2])) (F0 m 39 ls []) := by
    intro n39
    induction n39 with
    | zero =>
      intro x2 x3 hf
      exact nomatch (show (none : Option (Nat ⊕ Int32)) = some (.inl e0) from hf)
    | succ n39 ih39 =>
      intro x2 x3 hf H locs hP hS ls hl
      have hf : fX8_standardFactor_B39 N Tn Ta (fX8_standardFactor_H39 N Tn Ta n39) x2 x3 = some (.inl e0) := hf
      unfold fX8_standardFactor_B39 at hf
      refine lv_iload_n hx hb dX8_standardFactor_39 rfl (lv_at hl 2 rfl) ?_
      refine lv_iload_n hx hb dX8_standardFactor_40 rfl (lv_at hl 1 rfl) ?_
      refine lv_iconst (v := (1 : Int32)) hx hb dX8_standardFactor_41 (by decide) ?_
      refine lv_isub hx hb dX8_standardFactor_42 ?_
      refine lv_icmp_ge (tgt := 64) hx hb dX8_standardFactor_43 (by decide) (fun c_1 => ?_) (fun c_1 => ?_)
      · have hf := (if_pos c_1).symm.trans hf
        exact J64 x3 hf _ _ hP hS _ (lv_sub hl [2] rfl)
      · have hf := (if_neg c_1).symm.trans hf
        refine lv_aload_n hx hb dX8_standardFactor_46 rfl (lv_at hl 0 rfl) ?_
        refine va_get (D := D) (ci := 6) (v := .ref (q 1)) (C := RX8) (T := TX8) (N := 6) hx hb hts huX8 hown hE.1 hP 0 rfl rfl 0 (by decide) hk10 (fun _ h9 => h9) rfl dX8_standardFactor_47 ?_
        refine lv_iload_n hx hb dX8_standardFactor_50 rfl (lv_at hl 2 rfl) ?_
        refine lv_iload_n hx hb dX8_standardFactor_51 rfl (lv_at hl 1 rfl) ?_
        obtain ⟨r52, hc, hf⟩ := bn_some hf
        try dsimp only at hf
        refine g_call0 (ws' := (w_0_1_2 q cI cJ cD Tn Ta)) (st1 := [.int r52]) hq [0, 1, 2] [1, 2] [.inr 0, .inl 0, .inl 1] (va_runS (As := [.ref (q 1), .int x3, .int x2]) (rest := []) ⟨hx, hb, hml, hown, hts⟩ (kX1_isOneFactor l D cI cJ cD q hq N Tn Ta x3 x2 r52 hc) (va_cwS 3 hts gX8_standardFactor_X1_isOneFactor rfl rfl rfl (by decide +kernel) ⟨(Nat.le_of_ble_eq_true rfl), (Nat.le_of_ble_eq_true rfl)⟩) ⟨gP_blind, fun U hU hW => ⟨rfl, by rw [hU]; exact hP.sub (ws' := (w_1_2 q cI cJ cD Tn Ta)) [1, 2] rfl, gEv.warm hW hE⟩⟩ rfl rfl hl.1 rfl (lv_room (Nat.le_of_ble_eq_true rfl)) dX8_standardFactor_52 ⟨Nat.zero_le _, Nat.zero_le _⟩) hP hS (gSub rfl) rfl rfl rfl rfl rfl (fun H locs hP hS => ?_)
        refine lv_if_ne (tgt := 64) hx hb dX8_standardFactor_55 (by decide) (fun c_2 => ?_) (fun c_2 => ?_)
        · have hf := (if_neg c_2).symm.trans hf
          exact J64 x3 hf _ _ hP hS _ (lv_sub hl [2] rfl)
        · have hf := (if_pos c_2).symm.trans hf
          refine lv_iinc (v := (x3 + 1)) (lv' := [(3, .int (x3 + 1)), (0, .ref (q 0)), (2, .int x2)]) hx hb dX8_standardFactor_58 hl (k := 2) rfl rfl (by decide) rfl (fun ls hl => ?_)
          refine lv_goto (tgt := 39) hx hb dX8_standardFactor_61 (by decide) ?_
          exact ih39 x2 (x3 + 1) hf _ _ hP hS _ (lv_sub hl [1, 2, 0] rfl)
  unfold fX8_standardFactor at hf
  refine lv_aload_n hx hb dX8_standardFactor_0 rfl (lv_at hl 0 rfl) ?_
  refine lv_iload_n hx hb dX8_standardFactor_1 rfl (lv_at hl 1 rfl) ?_
  refine lv_iload_n hx hb dX8_standardFactor_2 rfl (lv_at hl 2 rfl) ?_
  rcases bx_some hf with ⟨e3, hc, hf⟩ | ⟨⟨⟩, hc, hf⟩
  · try dsimp only at hf
    refine g_callX (ws' := (w_0_1_2 q cI cJ cD Tn Ta)) hq [0, 1, 2] [0, 1] [.inl 0, .inl 1, .inr 2] (vx_runV (As := [.int p1, .int p2]) (rest := []) ⟨hx, hb, hml, hown, hts⟩ (kX8_checkPartx l hlt D cI cJ cD sa q hq N Tn p1 p2 e3 hc) (cwV 2 hts gX8_standardFactor_X8_checkPart rfl rfl rfl (by decide +kernel) ⟨(Nat.le_of_ble_eq_true rfl), (Nat.le_of_ble_eq_true rfl)⟩) ⟨gPx_blind, va_recv hE.1 hP (ci := 6) (q0 := 0) rfl rfl, fun U hU hW => ⟨rfl, by rw [hU]; exact hP.sub (ws' := (w_0_1 q cI cJ cD Tn)) [0, 1] rfl, gEv.warm hW hE, gXe.go hW hS (gMono rfl) hXe hU⟩⟩ rfl rfl hl.1 rfl (lv_room (Nat.le_of_ble_eq_true rfl)) dX8_standardFactor_3 ⟨(Nat.le_of_ble_eq_true rfl), (Nat.le_of_ble_eq_true rfl)⟩) hP hS (gSub rfl) rfl rfl rfl rfl (fun ce q9 H locs hP hS hce hcv hcl => ?_)
    cases hf
    exact vx_out (fun x9 hx9 => (htab x9 hx9).elim) hlocks hce hcv hcl (fun t ht hv => ⟨rfl, by rw [ht]; exact hP, hS.F ht⟩) hS.2.2 (Nat.le_of_ble_eq_true rfl) (Nat.le_of_ble_eq_true rfl)
  try dsimp only at hf
  refine g_call0 (ws' := (w_0_1_2 q cI cJ cD Tn Ta)) (st1 := []) hq [0, 1, 2] [0, 1] [.inl 0, .inl 1, .inr 2] (va_runV (As := [.int p1, .int p2]) (rest := []) ⟨hx, hb, hml, hown, hts⟩ (kX8_checkPart l D cI cJ cD q hq N Tn p1 p2 hc) (cwV 2 hts gX8_standardFactor_X8_checkPart rfl rfl rfl (by decide +kernel) ⟨(Nat.le_of_ble_eq_true rfl), (Nat.le_of_ble_eq_true rfl)⟩) ⟨gP_blind, va_recv hE.1 hP (ci := 6) (q0 := 0) rfl rfl, fun U hU hW => ⟨rfl, by rw [hU]; exact hP.sub (ws' := (w_0_1 q cI cJ cD Tn)) [0, 1] rfl, gEv.warm hW hE⟩⟩ rfl rfl hl.1 rfl (lv_room (Nat.le_of_ble_eq_true rfl)) dX8_standardFactor_3 ⟨Nat.zero_le _, Nat.zero_le _⟩) hP hS (gSub rfl) rfl rfl rfl rfl rfl (fun H locs hP hS => ?_)
  refine lv_iload_n hx hb dX8_standardFactor_6 rfl (lv_at hl 2 rfl) ?_
  refine lv_iload_n hx hb dX8_standardFactor_7 rfl (lv_at hl 1 rfl) ?_
  refine lv_isub hx hb dX8_standardFactor_8 ?_
  refine lv_iconst (v := (1 : Int32)) hx hb dX8_standardFactor_9 (by decide) ?_
  refine lv_icmp_eq (tgt := 25) hx hb dX8_standardFactor_10 (by decide) (fun c_3 => ?_) (fun c_3 => ?_)
  · have hf := (if_pos c_3).symm.trans hf
    exact J25 () hf _ _ hP hS _ (lv_sub hl [] rfl)
  · have hf := (if_neg c_3).symm.trans hf
    refine lv_aload_n hx hb dX8_standardFactor_13 rfl (lv_at hl 0 rfl) ?_
    refine va_get (D := D) (ci := 6) (v := .ref (q 1)) (C := RX8) (T := TX8) (N := 6) hx hb hts huX8 hown hE.1 hP 0 rfl rfl 0 (by decide) hk10 (fun _ h9 => h9) rfl dX8_standardFactor_14 ?_
    refine lv_iload_n hx hb dX8_standardFactor_17 rfl (lv_at hl 1 rfl) ?_
    refine lv_iload_n hx hb dX8_standardFactor_18 rfl (lv_at hl 2 rfl) ?_
    obtain ⟨r19, hc, hf⟩ := bn_some hf
    try dsimp only at hf
    refine g_call0 (ws' := (w_0_1_2 q cI cJ cD Tn Ta)) (st1 := [.int r19]) hq [0, 1, 2] [1, 2] [.inr 0, .inl 0, .inl 1] (va_runS (As := [.ref (q 1), .int p1, .int p2]) (rest := []) ⟨hx, hb, hml, hown, hts⟩ (kX1_isOneFactor l D cI cJ cD q hq N Tn Ta p1 p2 r19 hc) (va_cwS 3 hts gX8_standardFactor_X1_isOneFactor rfl rfl rfl (by decide +kernel) ⟨(Nat.le_of_ble_eq_true rfl), (Nat.le_of_ble_eq_true rfl)⟩) ⟨gP_blind, fun U hU hW => ⟨rfl, by rw [hU]; exact hP.sub (ws' := (w_1_2 q cI cJ cD Tn Ta)) [1, 2] rfl, gEv.warm hW hE⟩⟩ rfl rfl hl.1 rfl (lv_room (Nat.le_of_ble_eq_true rfl)) dX8_standardFactor_19 ⟨Nat.zero_le _, Nat.zero_le _⟩) hP hS (gSub rfl) rfl rfl rfl rfl rfl (fun H locs hP hS => ?_)
    refine lv_if_ne (tgt := 35) hx hb dX8_standardFactor_22 (by decide) (fun c_4 => ?_) (fun c_4 => ?_)
    · have hf := (if_neg c_4).symm.trans hf
      refine lv_iload_n hx hb dX8_standardFactor_35 rfl (lv_at hl 1 rfl) ?_
      refine lv_iconst (v := (1 : Int32)) hx hb dX8_standardFactor_36 (by decide) ?_
      refine lv_iadd hx hb dX8_standardFactor_37 ?_
      refine lv_istore_n (lv' := [(3, .int (p1 + (1 : Int32))), (0, .ref (q 0)), (1, .int p1), (2, .int p2)]) hx hb dX8_standardFactor_38 rfl hl (by decide) rfl (fun ls hl => ?_)
      exact K39 N p2 (p1 + (1 : Int32)) hf _ _ hP hS _ (lv_sub hl [1, 3, 0] rfl)
    · have hf := (if_pos c_4).symm.trans hf
      exact J25 () hf _ _ hP hS _ (lv_sub hl [] rfl)
set_option maxHeartbeats 4000000 in
set_option maxRecDepth 100000 in
theorem kX8_leastRotation (l : Launch) (D : va_G) (cI cJ cD : ClassId) (q : Nat → Nat) (hq : gInj q) (N : Nat) (Tn : Int32) (Ta : (Nat → Int32)) (p1 : Int32) (p2 : Int32) (r0 : Int32) (hf : fX8_leastRotation N Tn Ta p1 p2 = some (.inr r0)) : Met l yX8_leastRotation wsX8_leastRotation rX8_leastRotation (gP D cI cJ cD [.ref (q 0), .int p1, .int p2] (w_0_1_2 q cI cJ cD Tn Ta)) (gQ D (some (.int r0)) (w_0_1_2 q cI cJ cD Tn Ta) (gA q [0, 1, 2])) 0 0 (gA q [0, 1, 2]) := by
  refine Met.ofW (cc := cX8_leastRotation) (maxL := 3) (ret := (some .int)) (by decide +kernel) rfl ?_
  intro p e s m args below meth c s₁ B hml hv
  obtain ⟨rfl, hP, hE⟩ := hv
  have hx := B.exec
  have hb := B.bytes
  have hr := B.returns
  have hts := atoms_spec (ws := wsX8_leastRotation) B.pre
  have hown : s.vm.findClass RX8 = some m.cls := findClass_of_methodNamed B.named
  have hlocks := B.notSynchronized
  have hS : va_S (gA q [0, 1, 2]) s.heap s.heap [] := va_S.rf
  have hl := lv_entry ([.ref (q 0), .int p1, .int p2]) (n := 3) (Nat.le_of_ble_eq_true rfl)
  rw [lg_entry_eq]
  generalize (lg_sl ([.ref (q 0), .int p1, .int p2]) ++ List.replicate (3 - (lg_sl ([.ref (q 0), .int p1, .int p2])).length) Slot.unset).toArray = ls at hl ⊢
  have hl : lv_has ls 3 [(0, .ref (q 0)), (1, .int p1), (2, .int p2)] := hl
  have hk10 := hts (.fieldLink RX8 10 "LyndonText" "text" "LLyndonText$Letters;") (by decide +kernel)
  have huX8 : ∀ w ∈ u_ws RX8 TX8 6, w ∈ wsX8_leastRotation := by decide +kernel
  unfold fX8_leastRotation at hf
  refine lv_aload_n hx hb dX8_leastRotation_0 rfl (lv_at hl 0 rfl) ?_
  refine lv_iload_n hx hb dX8_leastRotation_1 rfl (lv_at hl 1 rfl) ?_
  refine lv_iload_n hx hb dX8_leastRotation_2 rfl (lv_at hl 2 rfl) ?_
  rcases bx_some hf with ⟨e3, hc, hf⟩ | ⟨⟨⟩, hc, hf⟩
  · exact nomatch hf
  try dsimp only at hf
  refine g_call0 (ws' := (w_0_1_2 q cI cJ cD Tn Ta)) (st1 := []) hq [0, 1, 2] [0, 1] [.inl 0, .inl 1, .inr 2] (va_runV (As := [.int p1, .int p2]) (rest := []) ⟨hx, hb, hml, hown, hts⟩ (kX8_checkPart l D cI cJ cD q hq N Tn p1 p2 hc) (cwV 2 hts gX8_leastRotation_X8_checkPart rfl rfl rfl (by decide +kernel) ⟨(Nat.le_of_ble_eq_true rfl), (Nat.le_of_ble_eq_true rfl)⟩) ⟨gP_blind, va_recv hE.1 hP (ci := 6) (q0 := 0) rfl rfl, fun U hU hW => ⟨rfl, by rw [hU]; exact hP.sub (ws' := (w_0_1 q cI cJ cD Tn)) [0, 1] rfl, gEv.warm hW hE⟩⟩ rfl rfl hl.1 rfl (lv_room (Nat.le_of_ble_eq_true rfl)) dX8_leastRotation_3 ⟨Nat.zero_le _, Nat.zero_le _⟩) hP hS (gSub rfl) rfl rfl rfl rfl rfl (fun H locs hP hS => ?_)
  refine lv_aload_n hx hb dX8_leastRotation_6 rfl (lv_at hl 0 rfl) ?_
  refine va_get (D := D) (ci := 6) (v := .ref (q 1)) (C := RX8) (T := TX8) (N := 6) hx hb hts huX8 hown hE.1 hP 0 rfl rfl 0 (by decide) hk10 (fun _ h9 => h9) rfl dX8_leastRotation_7 ?_
  refine lv_iload_n hx hb dX8_leastRotation_10 rfl (lv_at hl 1 rfl) ?_
  refine lv_iload_n hx hb dX8_leastRotation_11 rfl (lv_at hl 2 rfl) ?_
  obtain ⟨r12, hc, hf⟩ := bn_some hf
  try dsimp only at hf
  refine g_call0 (ws' := (w_0_1_2 q cI cJ cD Tn Ta)) (st1 := [.int r12]) hq [0, 1, 2] [1, 2] [.inr 0, .inl 0, .inl 1] (va_runS (As := [.ref (q 1), .int p1, .int p2]) (rest := []) ⟨hx, hb, hml, hown, hts⟩ (kX5_least l D cI cJ cD q hq N Tn Ta p1 p2 r12 hc) (va_cwS 3 hts gX8_leastRotation_X5_least rfl rfl rfl (by decide +kernel) ⟨(Nat.le_of_ble_eq_true rfl), (Nat.le_of_ble_eq_true rfl)⟩) ⟨gP_blind, fun U hU hW => ⟨rfl, by rw [hU]; exact hP.sub (ws' := (w_1_2 q cI cJ cD Tn Ta)) [1, 2] rfl, gEv.warm hW hE⟩⟩ rfl rfl hl.1 rfl (lv_room (Nat.le_of_ble_eq_true rfl)) dX8_leastRotation_12 ⟨Nat.zero_le _, Nat.zero_le _⟩) hP hS (gSub rfl) rfl rfl rfl rfl rfl (fun H locs hP hS => ?_)
  cases hf
  exact W.iret hx hb hr (fun t ht hW => ⟨⟨rfl, by rw [ht]; exact hP⟩, hS.F ht⟩) hS.2.2 dX8_leastRotation_15
set_option maxHeartbeats 4000000 in
set_option maxRecDepth 100000 in
theorem kX8_leastRotationx (l : Launch) (hlt : l.stackTraces = false) (D : va_G) (cI cJ cD : ClassId) (sa : Nat → Nat) (q : Nat → Nat) (hq : gInj q) (N : Nat) (Tn : Int32) (Ta : (Nat → Int32)) (p1 : Int32) (p2 : Int32) (e0 : Nat) (hf : fX8_leastRotation N Tn Ta p1 p2 = some (.inl e0)) : vx_Met l yX8_leastRotation wsX8_leastRotation rX8_leastRotationx (gPx D cI cJ cD sa (gA q [0, 1, 2]) [.ref (q 0), .int p1, .int p2] (w_0_1_2 q cI cJ cD Tn Ta)) (fun _ _ _ _ => False) (gX D (gEn e0) (w_0_1_2 q cI cJ cD Tn Ta) (gA q [0, 1, 2])) 1 6 (gA q [0, 1, 2]) := by
  refine vx_ofW (cc := cX8_leastRotation) (maxL := 3) (ret := (some .int)) (by decide +kernel) rfl ?_
  intro p e s m args below meth c s₁ B hml htab hv
  obtain ⟨rfl, hP, hE, hXe⟩ := hv
  have hx := B.exec
  have hb := B.bytes
  have hr := B.returns
  have hts := atoms_spec (ws := wsX8_leastRotation) B.pre
  have hown : s.vm.findClass RX8 = some m.cls := findClass_of_methodNamed B.named
  have hlocks := B.notSynchronized
  have hS : va_S (gA q [0, 1, 2]) s.heap s.heap [] := va_S.rf
  have hl := lv_entry ([.ref (q 0), .int p1, .int p2]) (n := 3) (Nat.le_of_ble_eq_true rfl)
  rw [lg_entry_eq]
  generalize (lg_sl ([.ref (q 0), .int p1, .int p2]) ++ List.replicate (3 - (lg_sl ([.ref (q 0), .int p1, .int p2])).length) Slot.unset).toArray = ls at hl ⊢
  have hl : lv_has ls 3 [(0, .ref (q 0)), (1, .int p1), (2, .int p2)] := hl
  have hk10 := hts (.fieldLink RX8 10 "LyndonText" "text" "LLyndonText$Letters;") (by decide +kernel)
  have huX8 : ∀ w ∈ u_ws RX8 TX8 6, w ∈ wsX8_leastRotation := by decide +kernel
  unfold fX8_leastRotation at hf
  refine lv_aload_n hx hb dX8_leastRotation_0 rfl (lv_at hl 0 rfl) ?_
  refine lv_iload_n hx hb dX8_leastRotation_1 rfl (lv_at hl 1 rfl) ?_
  refine lv_iload_n hx hb dX8_leastRotation_2 rfl (lv_at hl 2 rfl) ?_
  rcases bx_some hf with ⟨e3, hc, hf⟩ | ⟨⟨⟩, hc, hf⟩
  · try dsimp only at hf
    refine g_callX (ws' := (w_0_1_2 q cI cJ cD Tn Ta)) hq [0, 1, 2] [0, 1] [.inl 0, .inl 1, .inr 2] (vx_runV (As := [.int p1, .int p2]) (rest := []) ⟨hx, hb, hml, hown, hts⟩ (kX8_checkPartx l hlt D cI cJ cD sa q hq N Tn p1 p2 e3 hc) (cwV 2 hts gX8_leastRotation_X8_checkPart rfl rfl rfl (by decide +kernel) ⟨(Nat.le_of_ble_eq_true rfl), (Nat.le_of_ble_eq_true rfl)⟩) ⟨gPx_blind, va_recv hE.1 hP (ci := 6) (q0 := 0) rfl rfl, fun U hU hW => ⟨rfl, by rw [hU]; exact hP.sub (ws' := (w_0_1 q cI cJ cD Tn)) [0, 1] rfl, gEv.warm hW hE, gXe.go hW hS (gMono rfl) hXe hU⟩⟩ rfl rfl hl.1 rfl (lv_room (Nat.le_of_ble_eq_true rfl)) dX8_leastRotation_3 ⟨(Nat.le_of_ble_eq_true rfl), (Nat.le_of_ble_eq_true rfl)⟩) hP hS (gSub rfl) rfl rfl rfl rfl (fun ce q9 H locs hP hS hce hcv hcl => ?_)
    cases hf
    exact vx_out (fun x9 hx9 => (htab x9 hx9).elim) hlocks hce hcv hcl (fun t ht hv => ⟨rfl, by rw [ht]; exact hP, hS.F ht⟩) hS.2.2 (Nat.le_of_ble_eq_true rfl) (Nat.le_of_ble_eq_true rfl)
  try dsimp only at hf
  refine g_call0 (ws' := (w_0_1_2 q cI cJ cD Tn Ta)) (st1 := []) hq [0, 1, 2] [0, 1] [.inl 0, .inl 1, .inr 2] (va_runV (As := [.int p1, .int p2]) (rest := []) ⟨hx, hb, hml, hown, hts⟩ (kX8_checkPart l D cI cJ cD q hq N Tn p1 p2 hc) (cwV 2 hts gX8_leastRotation_X8_checkPart rfl rfl rfl (by decide +kernel) ⟨(Nat.le_of_ble_eq_true rfl), (Nat.le_of_ble_eq_true rfl)⟩) ⟨gP_blind, va_recv hE.1 hP (ci := 6) (q0 := 0) rfl rfl, fun U hU hW => ⟨rfl, by rw [hU]; exact hP.sub (ws' := (w_0_1 q cI cJ cD Tn)) [0, 1] rfl, gEv.warm hW hE⟩⟩ rfl rfl hl.1 rfl (lv_room (Nat.le_of_ble_eq_true rfl)) dX8_leastRotation_3 ⟨Nat.zero_le _, Nat.zero_le _⟩) hP hS (gSub rfl) rfl rfl rfl rfl rfl (fun H locs hP hS => ?_)
  refine lv_aload_n hx hb dX8_leastRotation_6 rfl (lv_at hl 0 rfl) ?_
  refine va_get (D := D) (ci := 6) (v := .ref (q 1)) (C := RX8) (T := TX8) (N := 6) hx hb hts huX8 hown hE.1 hP 0 rfl rfl 0 (by decide) hk10 (fun _ h9 => h9) rfl dX8_leastRotation_7 ?_
  refine lv_iload_n hx hb dX8_leastRotation_10 rfl (lv_at hl 1 rfl) ?_
  refine lv_iload_n hx hb dX8_leastRotation_11 rfl (lv_at hl 2 rfl) ?_
  obtain ⟨r12, hc, hf⟩ := bn_some hf
  try dsimp only at hf
  refine g_call0 (ws' := (w_0_1_2 q cI cJ cD Tn Ta)) (st1 := [.int r12]) hq [0, 1, 2] [1, 2] [.inr 0, .inl 0, .inl 1] (va_runS (As := [.ref (q 1), .int p1, .int p2]) (rest := []) ⟨hx, hb, hml, hown, hts⟩ (kX5_least l D cI cJ cD q hq N Tn Ta p1 p2 r12 hc) (va_cwS 3 hts gX8_leastRotation_X5_least rfl rfl rfl (by decide +kernel) ⟨(Nat.le_of_ble_eq_true rfl), (Nat.le_of_ble_eq_true rfl)⟩) ⟨gP_blind, fun U hU hW => ⟨rfl, by rw [hU]; exact hP.sub (ws' := (w_1_2 q cI cJ cD Tn Ta)) [1, 2] rfl, gEv.warm hW hE⟩⟩ rfl rfl hl.1 rfl (lv_room (Nat.le_of_ble_eq_true rfl)) dX8_leastRotation_12 ⟨Nat.zero_le _, Nat.zero_le _⟩) hP hS (gSub rfl) rfl rfl rfl rfl rfl (fun H locs hP hS => ?_)
  exact nomatch hf
set_option maxHeartbeats 4000000 in
set_option maxRecDepth 100000 in
theorem kX8_greatestRotation (l : Launch) (D : va_G) (cI cJ cD : ClassId) (q : Nat → Nat) (hq : gInj q) (N : Nat) (Tn : Int32) (Ta : (Nat → Int32)) (p1 : Int32) (p2 : Int32) (r0 : Int32) (hf : fX8_greatestRotation N Tn Ta p1 p2 = some (.inr r0)) : Met l yX8_greatestRotation wsX8_greatestRotation rX8_greatestRotation (gP D cI cJ cD [.ref (q 0), .int p1, .int p2] (w_0_1_2 q cI cJ cD Tn Ta)) (gQ D (some (.int r0)) (w_0_1_2 q cI cJ cD Tn Ta) (gA q [0, 1, 2])) 0 0 (gA q [0, 1, 2]) := by
  refine Met.ofW (cc := cX8_greatestRotation) (maxL := 3) (ret := (some .int)) (by decide +kernel) rfl ?_
  intro p e s m args below meth c s₁ B hml hv
  obtain ⟨rfl, hP, hE⟩ := hv
  have hx := B.exec
  have hb := B.bytes
  have hr := B.returns
  have hts := atoms_spec (ws := wsX8_greatestRotation) B.pre
  have hown : s.vm.findClass RX8 = some m.cls := findClass_of_methodNamed B.named
  have hlocks := B.notSynchronized
  have hS : va_S (gA q [0, 1, 2]) s.heap s.heap [] := va_S.rf
  have hl := lv_entry ([.ref (q 0), .int p1, .int p2]) (n := 3) (Nat.le_of_ble_eq_true rfl)
  rw [lg_entry_eq]
  generalize (lg_sl ([.ref (q 0), .int p1, .int p2]) ++ List.replicate (3 - (lg_sl ([.ref (q 0), .int p1, .int p2])).length) Slot.unset).toArray = ls at hl ⊢
  have hl : lv_has ls 3 [(0, .ref (q 0)), (1, .int p1), (2, .int p2)] := hl
  have hk10 := hts (.fieldLink RX8 10 "LyndonText" "text" "LLyndonText$Letters;") (by decide +kernel)
  have huX8 : ∀ w ∈ u_ws RX8 TX8 6, w ∈ wsX8_greatestRotation := by decide +kernel
  unfold fX8_greatestRotation at hf
  refine lv_aload_n hx hb dX8_greatestRotation_0 rfl (lv_at hl 0 rfl) ?_
  refine lv_iload_n hx hb dX8_greatestRotation_1 rfl (lv_at hl 1 rfl) ?_
  refine lv_iload_n hx hb dX8_greatestRotation_2 rfl (lv_at hl 2 rfl) ?_
  rcases bx_some hf with ⟨e3, hc, hf⟩ | ⟨⟨⟩, hc, hf⟩
  · exact nomatch hf
  try dsimp only at hf
  refine g_call0 (ws' := (w_0_1_2 q cI cJ cD Tn Ta)) (st1 := []) hq [0, 1, 2] [0, 1] [.inl 0, .inl 1, .inr 2] (va_runV (As := [.int p1, .int p2]) (rest := []) ⟨hx, hb, hml, hown, hts⟩ (kX8_checkPart l D cI cJ cD q hq N Tn p1 p2 hc) (cwV 2 hts gX8_greatestRotation_X8_checkPart rfl rfl rfl (by decide +kernel) ⟨(Nat.le_of_ble_eq_true rfl), (Nat.le_of_ble_eq_true rfl)⟩) ⟨gP_blind, va_recv hE.1 hP (ci := 6) (q0 := 0) rfl rfl, fun U hU hW => ⟨rfl, by rw [hU]; exact hP.sub (ws' := (w_0_1 q cI cJ cD Tn)) [0, 1] rfl, gEv.warm hW hE⟩⟩ rfl rfl hl.1 rfl (lv_room (Nat.le_of_ble_eq_true rfl)) dX8_greatestRotation_3 ⟨Nat.zero_le _, Nat.zero_le _⟩) hP hS (gSub rfl) rfl rfl rfl rfl rfl (fun H locs hP hS => ?_)
  refine lv_aload_n hx hb dX8_greatestRotation_6 rfl (lv_at hl 0 rfl) ?_
  refine va_get (D := D) (ci := 6) (v := .ref (q 1)) (C := RX8) (T := TX8) (N := 6) hx hb hts huX8 hown hE.1 hP 0 rfl rfl 0 (by decide) hk10 (fun _ h9 => h9) rfl dX8_greatestRotation_7 ?_
  refine lv_iload_n hx hb dX8_greatestRotation_10 rfl (lv_at hl 1 rfl) ?_
  refine lv_iload_n hx hb dX8_greatestRotation_11 rfl (lv_at hl 2 rfl) ?_
  obtain ⟨r12, hc, hf⟩ := bn_some hf
  try dsimp only at hf
  refine g_call0 (ws' := (w_0_1_2 q cI cJ cD Tn Ta)) (st1 := [.int r12]) hq [0, 1, 2] [1, 2] [.inr 0, .inl 0, .inl 1] (va_runS (As := [.ref (q 1), .int p1, .int p2]) (rest := []) ⟨hx, hb, hml, hown, hts⟩ (kX5_greatest l D cI cJ cD q hq N Tn Ta p1 p2 r12 hc) (va_cwS 3 hts gX8_greatestRotation_X5_greatest rfl rfl rfl (by decide +kernel) ⟨(Nat.le_of_ble_eq_true rfl), (Nat.le_of_ble_eq_true rfl)⟩) ⟨gP_blind, fun U hU hW => ⟨rfl, by rw [hU]; exact hP.sub (ws' := (w_1_2 q cI cJ cD Tn Ta)) [1, 2] rfl, gEv.warm hW hE⟩⟩ rfl rfl hl.1 rfl (lv_room (Nat.le_of_ble_eq_true rfl)) dX8_greatestRotation_12 ⟨Nat.zero_le _, Nat.zero_le _⟩) hP hS (gSub rfl) rfl rfl rfl rfl rfl (fun H locs hP hS => ?_)
  cases hf
  exact W.iret hx hb hr (fun t ht hW => ⟨⟨rfl, by rw [ht]; exact hP⟩, hS.F ht⟩) hS.2.2 dX8_greatestRotation_15
set_option maxHeartbeats 4000000 in
set_option maxRecDepth 100000 in
theorem kX8_greatestRotationx (l : Launch) (hlt : l.stackTraces = false) (D : va_G) (cI cJ cD : ClassId) (sa : Nat → Nat) (q : Nat → Nat) (hq : gInj q) (N : Nat) (Tn : Int32) (Ta : (Nat → Int32)) (p1 : Int32) (p2 : Int32) (e0 : Nat) (hf : fX8_greatestRotation N Tn Ta p1 p2 = some (.inl e0)) : vx_Met l yX8_greatestRotation wsX8_greatestRotation rX8_greatestRotationx (gPx D cI cJ cD sa (gA q [0, 1, 2]) [.ref (q 0), .int p1, .int p2] (w_0_1_2 q cI cJ cD Tn Ta)) (fun _ _ _ _ => False) (gX D (gEn e0) (w_0_1_2 q cI cJ cD Tn Ta) (gA q [0, 1, 2])) 1 6 (gA q [0, 1, 2]) := by
  refine vx_ofW (cc := cX8_greatestRotation) (maxL := 3) (ret := (some .int)) (by decide +kernel) rfl ?_
  intro p e s m args below meth c s₁ B hml htab hv
  obtain ⟨rfl, hP, hE, hXe⟩ := hv
  have hx := B.exec
  have hb := B.bytes
  have hr := B.returns
  have hts := atoms_spec (ws := wsX8_greatestRotation) B.pre
  have hown : s.vm.findClass RX8 = some m.cls := findClass_of_methodNamed B.named
  have hlocks := B.notSynchronized
  have hS : va_S (gA q [0, 1, 2]) s.heap s.heap [] := va_S.rf
  have hl := lv_entry ([.ref (q 0), .int p1, .int p2]) (n := 3) (Nat.le_of_ble_eq_true rfl)
  rw [lg_entry_eq]
  generalize (lg_sl ([.ref (q 0), .int p1, .int p2]) ++ List.replicate (3 - (lg_sl ([.ref (q 0), .int p1, .int p2])).length) Slot.unset).toArray = ls at hl ⊢
  have hl : lv_has ls 3 [(0, .ref (q 0)), (1, .int p1), (2, .int p2)] := hl
  have hk10 := hts (.fieldLink RX8 10 "LyndonText" "text" "LLyndonText$Letters;") (by decide +kernel)
  have huX8 : ∀ w ∈ u_ws RX8 TX8 6, w ∈ wsX8_greatestRotation := by decide +kernel
  unfold fX8_greatestRotation at hf
  refine lv_aload_n hx hb dX8_greatestRotation_0 rfl (lv_at hl 0 rfl) ?_
  refine lv_iload_n hx hb dX8_greatestRotation_1 rfl (lv_at hl 1 rfl) ?_
  refine lv_iload_n hx hb dX8_greatestRotation_2 rfl (lv_at hl 2 rfl) ?_
  rcases bx_some hf with ⟨e3, hc, hf⟩ | ⟨⟨⟩, hc, hf⟩
  · try dsimp only at hf
    refine g_callX (ws' := (w_0_1_2 q cI cJ cD Tn Ta)) hq [0, 1, 2] [0, 1] [.inl 0, .inl 1, .inr 2] (vx_runV (As := [.int p1, .int p2]) (rest := []) ⟨hx, hb, hml, hown, hts⟩ (kX8_checkPartx l hlt D cI cJ cD sa q hq N Tn p1 p2 e3 hc) (cwV 2 hts gX8_greatestRotation_X8_checkPart rfl rfl rfl (by decide +kernel) ⟨(Nat.le_of_ble_eq_true rfl), (Nat.le_of_ble_eq_true rfl)⟩) ⟨gPx_blind, va_recv hE.1 hP (ci := 6) (q0 := 0) rfl rfl, fun U hU hW => ⟨rfl, by rw [hU]; exact hP.sub (ws' := (w_0_1 q cI cJ cD Tn)) [0, 1] rfl, gEv.warm hW hE, gXe.go hW hS (gMono rfl) hXe hU⟩⟩ rfl rfl hl.1 rfl (lv_room (Nat.le_of_ble_eq_true rfl)) dX8_greatestRotation_3 ⟨(Nat.le_of_ble_eq_true rfl), (Nat.le_of_ble_eq_true rfl)⟩) hP hS (gSub rfl) rfl rfl rfl rfl (fun ce q9 H locs hP hS hce hcv hcl => ?_)
    cases hf
    exact vx_out (fun x9 hx9 => (htab x9 hx9).elim) hlocks hce hcv hcl (fun t ht hv => ⟨rfl, by rw [ht]; exact hP, hS.F ht⟩) hS.2.2 (Nat.le_of_ble_eq_true rfl) (Nat.le_of_ble_eq_true rfl)
  try dsimp only at hf
  refine g_call0 (ws' := (w_0_1_2 q cI cJ cD Tn Ta)) (st1 := []) hq [0, 1, 2] [0, 1] [.inl 0, .inl 1, .inr 2] (va_runV (As := [.int p1, .int p2]) (rest := []) ⟨hx, hb, hml, hown, hts⟩ (kX8_checkPart l D cI cJ cD q hq N Tn p1 p2 hc) (cwV 2 hts gX8_greatestRotation_X8_checkPart rfl rfl rfl (by decide +kernel) ⟨(Nat.le_of_ble_eq_true rfl), (Nat.le_of_ble_eq_true rfl)⟩) ⟨gP_blind, va_recv hE.1 hP (ci := 6) (q0 := 0) rfl rfl, fun U hU hW => ⟨rfl, by rw [hU]; exact hP.sub (ws' := (w_0_1 q cI cJ cD Tn)) [0, 1] rfl, gEv.warm hW hE⟩⟩ rfl rfl hl.1 rfl (lv_room (Nat.le_of_ble_eq_true rfl)) dX8_greatestRotation_3 ⟨Nat.zero_le _, Nat.zero_le _⟩) hP hS (gSub rfl) rfl rfl rfl rfl rfl (fun H locs hP hS => ?_)
  refine lv_aload_n hx hb dX8_greatestRotation_6 rfl (lv_at hl 0 rfl) ?_
  refine va_get (D := D) (ci := 6) (v := .ref (q 1)) (C := RX8) (T := TX8) (N := 6) hx hb hts huX8 hown hE.1 hP 0 rfl rfl 0 (by decide) hk10 (fun _ h9 => h9) rfl dX8_greatestRotation_7 ?_
  refine lv_iload_n hx hb dX8_greatestRotation_10 rfl (lv_at hl 1 rfl) ?_
  refine lv_iload_n hx hb dX8_greatestRotation_11 rfl (lv_at hl 2 rfl) ?_
  obtain ⟨r12, hc, hf⟩ := bn_some hf
  try dsimp only at hf
  refine g_call0 (ws' := (w_0_1_2 q cI cJ cD Tn Ta)) (st1 := [.int r12]) hq [0, 1, 2] [1, 2] [.inr 0, .inl 0, .inl 1] (va_runS (As := [.ref (q 1), .int p1, .int p2]) (rest := []) ⟨hx, hb, hml, hown, hts⟩ (kX5_greatest l D cI cJ cD q hq N Tn Ta p1 p2 r12 hc) (va_cwS 3 hts gX8_greatestRotation_X5_greatest rfl rfl rfl (by decide +kernel) ⟨(Nat.le_of_ble_eq_true rfl), (Nat.le_of_ble_eq_true rfl)⟩) ⟨gP_blind, fun U hU hW => ⟨rfl, by rw [hU]; exact hP.sub (ws' := (w_1_2 q cI cJ cD Tn Ta)) [1, 2] rfl, gEv.warm hW hE⟩⟩ rfl rfl hl.1 rfl (lv_room (Nat.le_of_ble_eq_true rfl)) dX8_greatestRotation_12 ⟨Nat.zero_le _, Nat.zero_le _⟩) hP hS (gSub rfl) rfl rfl rfl rfl rfl (fun H locs hP hS => ?_)
  exact nomatch hf
set_option maxHeartbeats 4000000 in
set_option maxRecDepth 100000 in
theorem kX8_rotations (l : Launch) (D : va_G) (cI cJ cD : ClassId) (q : Nat → Nat) (hq : gInj q) (N : Nat) (Tn : Int32) (Ta : (Nat → Int32)) (Ba : (Nat → Int32)) (p1 : Int32) (p2 : Int32) (r0 : Int32) (Ba9 : (Nat → Int32)) (hf : fX8_rotations N Tn Ta Ba p1 p2 = some (.inr (r0, Ba9))) : Met l yX8_rotations wsX8_rotations rX8_rotations (gP D cI cJ cD [.ref (q 0), .int p1, .int p2] (w_0_1_2_5_6 q cI cJ cD Tn Ta Ba)) (gQ D (some (.int r0)) (w_0_1_2_5_6 q cI cJ cD Tn Ta Ba9) (gA q [0, 1, 2, 5, 6])) 0 0 (gA q [0, 1, 2, 5, 6]) := by
  refine Met.ofW (cc := cX8_rotations) (maxL := 3) (ret := (some .int)) (by decide +kernel) rfl ?_
  intro p e s m args below meth c s₁ B hml hv
  obtain ⟨rfl, hP, hE⟩ := hv
  have hx := B.exec
  have hb := B.bytes
  have hr := B.returns
  have hts := atoms_spec (ws := wsX8_rotations) B.pre
  have hown : s.vm.findClass RX8 = some m.cls := findClass_of_methodNamed B.named
  have hlocks := B.notSynchronized
  have hS : va_S (gA q [0, 1, 2, 5, 6]) s.heap s.heap [] := va_S.rf
  have hl := lv_entry ([.ref (q 0), .int p1, .int p2]) (n := 3) (Nat.le_of_ble_eq_true rfl)
  rw [lg_entry_eq]
  generalize (lg_sl ([.ref (q 0), .int p1, .int p2]) ++ List.replicate (3 - (lg_sl ([.ref (q 0), .int p1, .int p2])).length) Slot.unset).toArray = ls at hl ⊢
  have hl : lv_has ls 3 [(0, .ref (q 0)), (1, .int p1), (2, .int p2)] := hl
  have hk26 := hts (.fieldLink RX8 26 "LyndonText" "borderRow" "LLyndonText$Borders;") (by decide +kernel)
  have hk10 := hts (.fieldLink RX8 10 "LyndonText" "text" "LLyndonText$Letters;") (by decide +kernel)
  have huX8 : ∀ w ∈ u_ws RX8 TX8 6, w ∈ wsX8_rotations := by decide +kernel
  unfold fX8_rotations at hf
  refine lv_aload_n hx hb dX8_rotations_0 rfl (lv_at hl 0 rfl) ?_
  refine lv_iload_n hx hb dX8_rotations_1 rfl (lv_at hl 1 rfl) ?_
  refine lv_iload_n hx hb dX8_rotations_2 rfl (lv_at hl 2 rfl) ?_
  rcases bx_some hf with ⟨e3, hc, hf⟩ | ⟨⟨⟩, hc, hf⟩
  · exact nomatch hf
  try dsimp only at hf
  refine g_call0 (ws' := (w_0_1_2_5_6 q cI cJ cD Tn Ta Ba)) (st1 := []) hq [0, 1, 2, 5, 6] [0, 1] [.inl 0, .inl 1, .inr 2, .inr 3, .inr 4] (va_runV (As := [.int p1, .int p2]) (rest := []) ⟨hx, hb, hml, hown, hts⟩ (kX8_checkPart l D cI cJ cD q hq N Tn p1 p2 hc) (cwV 2 hts gX8_rotations_X8_checkPart rfl rfl rfl (by decide +kernel) ⟨(Nat.le_of_ble_eq_true rfl), (Nat.le_of_ble_eq_true rfl)⟩) ⟨gP_blind, va_recv hE.1 hP (ci := 6) (q0 := 0) rfl rfl, fun U hU hW => ⟨rfl, by rw [hU]; exact hP.sub (ws' := (w_0_1 q cI cJ cD Tn)) [0, 1] rfl, gEv.warm hW hE⟩⟩ rfl rfl hl.1 rfl (lv_room (Nat.le_of_ble_eq_true rfl)) dX8_rotations_3 ⟨Nat.zero_le _, Nat.zero_le _⟩) hP hS (gSub rfl) rfl rfl rfl rfl rfl (fun H locs hP hS => ?_)
  refine lv_aload_n hx hb dX8_rotations_6 rfl (lv_at hl 0 rfl) ?_
  refine va_get (D := D) (ci := 6) (v := .ref (q 5)) (C := RX8) (T := TX8) (N := 6) hx hb hts huX8 hown hE.1 hP 0 rfl rfl 2 (by decide) hk26 (fun _ h9 => h9) rfl dX8_rotations_7 ?_
  refine lv_aload_n hx hb dX8_rotations_10 rfl (lv_at hl 0 rfl) ?_
  refine va_get (D := D) (ci := 6) (v := .ref (q 1)) (C := RX8) (T := TX8) (N := 6) hx hb hts huX8 hown hE.1 hP 0 rfl rfl 0 (by decide) hk10 (fun _ h9 => h9) rfl dX8_rotations_11 ?_
  refine lv_iload_n hx hb dX8_rotations_14 rfl (lv_at hl 1 rfl) ?_
  refine lv_iload_n hx hb dX8_rotations_15 rfl (lv_at hl 2 rfl) ?_
  obtain ⟨⟨r16, Ba16⟩, hc, hf⟩ := bn_some hf
  try dsimp only at hf
  refine g_call0 (ws' := (w_0_1_2_5_6 q cI cJ cD Tn Ta Ba16)) (st1 := [.int r16]) hq [0, 1, 2, 5, 6] [1, 2, 5, 6] [.inr 0, .inl 0, .inl 1, .inl 2, .inl 3] (va_runV (As := [.ref (q 1), .int p1, .int p2]) (rest := []) ⟨hx, hb, hml, hown, hts⟩ (kX0_rootSize l D cI cJ cD q hq N Tn Ta Ba p1 p2 r16 Ba16 hc) (cwV 3 hts gX8_rotations_X0_rootSize rfl rfl rfl (by decide +kernel) ⟨(Nat.le_of_ble_eq_true rfl), (Nat.le_of_ble_eq_true rfl)⟩) ⟨gP_blind, va_recv hE.1 hP (ci := 0) (q0 := 3) rfl rfl, fun U hU hW => ⟨rfl, by rw [hU]; exact hP.sub (ws' := (w_1_2_5_6 q cI cJ cD Tn Ta Ba)) [1, 2, 3, 4] rfl, gEv.warm hW hE⟩⟩ rfl rfl hl.1 rfl (lv_room (Nat.le_of_ble_eq_true rfl)) dX8_rotations_16 ⟨Nat.zero_le _, Nat.zero_le _⟩) hP hS (gSub rfl) rfl rfl rfl rfl rfl (fun H locs hP hS => ?_)
  cases hf
  exact W.iret hx hb hr (fun t ht hW => ⟨⟨rfl, by rw [ht]; exact hP⟩, hS.F ht⟩) hS.2.2 dX8_rotations_19
set_option maxHeartbeats 4000000 in
set_option maxRecDepth 100000 in
theorem kX8_rotationsx (l : Launch) (hlt : l.stackTraces = false) (D : va_G) (cI cJ cD : ClassId) (sa : Nat → Nat) (q : Nat → Nat) (hq : gInj q) (N : Nat) (Tn : Int32) (Ta : (Nat → Int32)) (Ba : (Nat → Int32)) (p1 : Int32) (p2 : Int32) (e0 : Nat) (Ba9 : (Nat → Int32)) (hf : fX8_rotations N Tn Ta Ba p1 p2 = some (.inl (e0, Ba9))) : vx_Met l yX8_rotations wsX8_rotations rX8_rotationsx (gPx D cI cJ cD sa (gA q [0, 1, 2, 5, 6]) [.ref (q 0), .int p1, .int p2] (w_0_1_2_5_6 q cI cJ cD Tn Ta Ba)) (fun _ _ _ _ => False) (gX D (gEn e0) (w_0_1_2_5_6 q cI cJ cD Tn Ta Ba9) (gA q [0, 1, 2, 5, 6])) 1 6 (gA q [0, 1, 2, 5, 6]) := by
  refine vx_ofW (cc := cX8_rotations) (maxL := 3) (ret := (some .int)) (by decide +kernel) rfl ?_
  intro p e s m args below meth c s₁ B hml htab hv
  obtain ⟨rfl, hP, hE, hXe⟩ := hv
  have hx := B.exec
  have hb := B.bytes
  have hr := B.returns
  have hts := atoms_spec (ws := wsX8_rotations) B.pre
  have hown : s.vm.findClass RX8 = some m.cls := findClass_of_methodNamed B.named
  have hlocks := B.notSynchronized
  have hS : va_S (gA q [0, 1, 2, 5, 6]) s.heap s.heap [] := va_S.rf
  have hl := lv_entry ([.ref (q 0), .int p1, .int p2]) (n := 3) (Nat.le_of_ble_eq_true rfl)
  rw [lg_entry_eq]
  generalize (lg_sl ([.ref (q 0), .int p1, .int p2]) ++ List.replicate (3 - (lg_sl ([.ref (q 0), .int p1, .int p2])).length) Slot.unset).toArray = ls at hl ⊢
  have hl : lv_has ls 3 [(0, .ref (q 0)), (1, .int p1), (2, .int p2)] := hl
  have hk26 := hts (.fieldLink RX8 26 "LyndonText" "borderRow" "LLyndonText$Borders;") (by decide +kernel)
  have hk10 := hts (.fieldLink RX8 10 "LyndonText" "text" "LLyndonText$Letters;") (by decide +kernel)
  have huX8 : ∀ w ∈ u_ws RX8 TX8 6, w ∈ wsX8_rotations := by decide +kernel
  unfold fX8_rotations at hf
  refine lv_aload_n hx hb dX8_rotations_0 rfl (lv_at hl 0 rfl) ?_
  refine lv_iload_n hx hb dX8_rotations_1 rfl (lv_at hl 1 rfl) ?_
  refine lv_iload_n hx hb dX8_rotations_2 rfl (lv_at hl 2 rfl) ?_
  rcases bx_some hf with ⟨e3, hc, hf⟩ | ⟨⟨⟩, hc, hf⟩
  · try dsimp only at hf
    refine g_callX (ws' := (w_0_1_2_5_6 q cI cJ cD Tn Ta Ba)) hq [0, 1, 2, 5, 6] [0, 1] [.inl 0, .inl 1, .inr 2, .inr 3, .inr 4] (vx_runV (As := [.int p1, .int p2]) (rest := []) ⟨hx, hb, hml, hown, hts⟩ (kX8_checkPartx l hlt D cI cJ cD sa q hq N Tn p1 p2 e3 hc) (cwV 2 hts gX8_rotations_X8_checkPart rfl rfl rfl (by decide +kernel) ⟨(Nat.le_of_ble_eq_true rfl), (Nat.le_of_ble_eq_true rfl)⟩) ⟨gPx_blind, va_recv hE.1 hP (ci := 6) (q0 := 0) rfl rfl, fun U hU hW => ⟨rfl, by rw [hU]; exact hP.sub (ws' := (w_0_1 q cI cJ cD Tn)) [0, 1] rfl, gEv.warm hW hE, gXe.go hW hS (gMono rfl) hXe hU⟩⟩ rfl rfl hl.1 rfl (lv_room (Nat.le_of_ble_eq_true rfl)) dX8_rotations_3 ⟨(Nat.le_of_ble_eq_true rfl), (Nat.le_of_ble_eq_true rfl)⟩) hP hS (gSub rfl) rfl rfl rfl rfl (fun ce q9 H locs hP hS hce hcv hcl => ?_)
    cases hf
    exact vx_out (fun x9 hx9 => (htab x9 hx9).elim) hlocks hce hcv hcl (fun t ht hv => ⟨rfl, by rw [ht]; exact hP, hS.F ht⟩) hS.2.2 (Nat.le_of_ble_eq_true rfl) (Nat.le_of_ble_eq_true rfl)
  try dsimp only at hf
  refine g_call0 (ws' := (w_0_1_2_5_6 q cI cJ cD Tn Ta Ba)) (st1 := []) hq [0, 1, 2, 5, 6] [0, 1] [.inl 0, .inl 1, .inr 2, .inr 3, .inr 4] (va_runV (As := [.int p1, .int p2]) (rest := []) ⟨hx, hb, hml, hown, hts⟩ (kX8_checkPart l D cI cJ cD q hq N Tn p1 p2 hc) (cwV 2 hts gX8_rotations_X8_checkPart rfl rfl rfl (by decide +kernel) ⟨(Nat.le_of_ble_eq_true rfl), (Nat.le_of_ble_eq_true rfl)⟩) ⟨gP_blind, va_recv hE.1 hP (ci := 6) (q0 := 0) rfl rfl, fun U hU hW => ⟨rfl, by rw [hU]; exact hP.sub (ws' := (w_0_1 q cI cJ cD Tn)) [0, 1] rfl, gEv.warm hW hE⟩⟩ rfl rfl hl.1 rfl (lv_room (Nat.le_of_ble_eq_true rfl)) dX8_rotations_3 ⟨Nat.zero_le _, Nat.zero_le _⟩) hP hS (gSub rfl) rfl rfl rfl rfl rfl (fun H locs hP hS => ?_)
  refine lv_aload_n hx hb dX8_rotations_6 rfl (lv_at hl 0 rfl) ?_
  refine va_get (D := D) (ci := 6) (v := .ref (q 5)) (C := RX8) (T := TX8) (N := 6) hx hb hts huX8 hown hE.1 hP 0 rfl rfl 2 (by decide) hk26 (fun _ h9 => h9) rfl dX8_rotations_7 ?_
  refine lv_aload_n hx hb dX8_rotations_10 rfl (lv_at hl 0 rfl) ?_
  refine va_get (D := D) (ci := 6) (v := .ref (q 1)) (C := RX8) (T := TX8) (N := 6) hx hb hts huX8 hown hE.1 hP 0 rfl rfl 0 (by decide) hk10 (fun _ h9 => h9) rfl dX8_rotations_11 ?_
  refine lv_iload_n hx hb dX8_rotations_14 rfl (lv_at hl 1 rfl) ?_
  refine lv_iload_n hx hb dX8_rotations_15 rfl (lv_at hl 2 rfl) ?_
  obtain ⟨⟨r16, Ba16⟩, hc, hf⟩ := bn_some hf
  try dsimp only at hf
  refine g_call0 (ws' := (w_0_1_2_5_6 q cI cJ cD Tn Ta Ba16)) (st1 := [.int r16]) hq [0, 1, 2, 5, 6] [1, 2, 5, 6] [.inr 0, .inl 0, .inl 1, .inl 2, .inl 3] (va_runV (As := [.ref (q 1), .int p1, .int p2]) (rest := []) ⟨hx, hb, hml, hown, hts⟩ (kX0_rootSize l D cI cJ cD q hq N Tn Ta Ba p1 p2 r16 Ba16 hc) (cwV 3 hts gX8_rotations_X0_rootSize rfl rfl rfl (by decide +kernel) ⟨(Nat.le_of_ble_eq_true rfl), (Nat.le_of_ble_eq_true rfl)⟩) ⟨gP_blind, va_recv hE.1 hP (ci := 0) (q0 := 3) rfl rfl, fun U hU hW => ⟨rfl, by rw [hU]; exact hP.sub (ws' := (w_1_2_5_6 q cI cJ cD Tn Ta Ba)) [1, 2, 3, 4] rfl, gEv.warm hW hE⟩⟩ rfl rfl hl.1 rfl (lv_room (Nat.le_of_ble_eq_true rfl)) dX8_rotations_16 ⟨Nat.zero_le _, Nat.zero_le _⟩) hP hS (gSub rfl) rfl rfl rfl rfl rfl (fun H locs hP hS => ?_)
  exact nomatch hf
set_option maxHeartbeats 4000000 in
set_option maxRecDepth 100000 in
theorem kX8_isNecklace (l : Launch) (D : va_G) (cI cJ cD : ClassId) (q : Nat → Nat) (hq : gInj q) (N : Nat) (Tn : Int32) (Ta : (Nat → Int32)) (p1 : Int32) (p2 : Int32) (r0 : Int32) (hf : fX8_isNecklace N Tn Ta p1 p2 = some (.inr r0)) : Met l yX8_isNecklace wsX8_isNecklace rX8_isNecklace (gP D cI cJ cD [.ref (q 0), .int p1, .int p2] (w_0_1_2 q cI cJ cD Tn Ta)) (gQ D (some (.int r0)) (w_0_1_2 q cI cJ cD Tn Ta) (gA q [0, 1, 2])) 0 0 (gA q [0, 1, 2]) := by
  refine Met.ofW (cc := cX8_isNecklace) (maxL := 3) (ret := (some .boolean)) (by decide +kernel) rfl ?_
  intro p e s m args below meth c s₁ B hml hv
  obtain ⟨rfl, hP, hE⟩ := hv
  have hx := B.exec
  have hb := B.bytes
  have hr := B.returns
  have hts := atoms_spec (ws := wsX8_isNecklace) B.pre
  have hown : s.vm.findClass RX8 = some m.cls := findClass_of_methodNamed B.named
  have hlocks := B.notSynchronized
  have hS : va_S (gA q [0, 1, 2]) s.heap s.heap [] := va_S.rf
  have hl := lv_entry ([.ref (q 0), .int p1, .int p2]) (n := 3) (Nat.le_of_ble_eq_true rfl)
  rw [lg_entry_eq]
  generalize (lg_sl ([.ref (q 0), .int p1, .int p2]) ++ List.replicate (3 - (lg_sl ([.ref (q 0), .int p1, .int p2])).length) Slot.unset).toArray = ls at hl ⊢
  have hl : lv_has ls 3 [(0, .ref (q 0)), (1, .int p1), (2, .int p2)] := hl
  have hk10 := hts (.fieldLink RX8 10 "LyndonText" "text" "LLyndonText$Letters;") (by decide +kernel)
  have huX8 : ∀ w ∈ u_ws RX8 TX8 6, w ∈ wsX8_isNecklace := by decide +kernel
  have J23 : ∀ (y0 : Int32), fX8_isNecklace_J23 N Tn Ta y0 = some (.inr r0) → ∀ (H : Heap) (locs : List Loc), va_P D vwCl (w_0_1_2 q cI cJ cD Tn Ta) H → va_S (gA q [0, 1, 2]) s.heap H locs → ∀ ls : Array Slot, lv_has ls 3 [] → W p l e (headSpec wsX8_isNecklace rX8_isNecklace).room s m ([.ref (q 0), .int p1, .int p2] : List Value).toArray below meth c H locs 0 0 (MQ below (gQ D (some (.int r0)) (w_0_1_2 q cI cJ cD Tn Ta) (gA q [0, 1, 2])) ([.ref (q 0), .int p1, .int p2] : List Value).toArray s 0 0 (gA q [0, 1, 2])) (F0 m 23 ls [.int y0]) := by
    intro y0 hf H locs hP hS ls hl
    unfold fX8_isNecklace_J23 at hf
    obtain ⟨g_1, hf⟩ := gd_some hf
    cases hf
    exact W.zret (ty := .boolean) hx hb hr (isB_nar g_1) (fun t ht hW => ⟨⟨rfl, by rw [ht]; exact hP⟩, hS.F ht⟩) hS.2.2 dX8_isNecklace_23
  unfold fX8_isNecklace at hf
  refine lv_aload_n hx hb dX8_isNecklace_0 rfl (lv_at hl 0 rfl) ?_
  refine lv_iload_n hx hb dX8_isNecklace_1 rfl (lv_at hl 1 rfl) ?_
  refine lv_iload_n hx hb dX8_isNecklace_2 rfl (lv_at hl 2 rfl) ?_
  rcases bx_some hf with ⟨e3, hc, hf⟩ | ⟨⟨⟩, hc, hf⟩
  · exact nomatch hf
  try dsimp only at hf
  refine g_call0 (ws' := (w_0_1_2 q cI cJ cD Tn Ta)) (st1 := []) hq [0, 1, 2] [0, 1] [.inl 0, .inl 1, .inr 2] (va_runV (As := [.int p1, .int p2]) (rest := []) ⟨hx, hb, hml, hown, hts⟩ (kX8_checkPart l D cI cJ cD q hq N Tn p1 p2 hc) (cwV 2 hts gX8_isNecklace_X8_checkPart rfl rfl rfl (by decide +kernel) ⟨(Nat.le_of_ble_eq_true rfl), (Nat.le_of_ble_eq_true rfl)⟩) ⟨gP_blind, va_recv hE.1 hP (ci := 6) (q0 := 0) rfl rfl, fun U hU hW => ⟨rfl, by rw [hU]; exact hP.sub (ws' := (w_0_1 q cI cJ cD Tn)) [0, 1] rfl, gEv.warm hW hE⟩⟩ rfl rfl hl.1 rfl (lv_room (Nat.le_of_ble_eq_true rfl)) dX8_isNecklace_3 ⟨Nat.zero_le _, Nat.zero_le _⟩) hP hS (gSub rfl) rfl rfl rfl rfl rfl (fun H locs hP hS => ?_)
  refine lv_aload_n hx hb dX8_isNecklace_6 rfl (lv_at hl 0 rfl) ?_
  refine va_get (D := D) (ci := 6) (v := .ref (q 1)) (C := RX8) (T := TX8) (N := 6) hx hb hts huX8 hown hE.1 hP 0 rfl rfl 0 (by decide) hk10 (fun _ h9 => h9) rfl dX8_isNecklace_7 ?_
  refine lv_iload_n hx hb dX8_isNecklace_10 rfl (lv_at hl 1 rfl) ?_
  refine lv_iload_n hx hb dX8_isNecklace_11 rfl (lv_at hl 2 rfl) ?_
  obtain ⟨r12, hc, hf⟩ := bn_some hf
  try dsimp only at hf
  refine g_call0 (ws' := (w_0_1_2 q cI cJ cD Tn Ta)) (st1 := [.int r12]) hq [0, 1, 2] [1, 2] [.inr 0, .inl 0, .inl 1] (va_runS (As := [.ref (q 1), .int p1, .int p2]) (rest := []) ⟨hx, hb, hml, hown, hts⟩ (kX5_least l D cI cJ cD q hq N Tn Ta p1 p2 r12 hc) (va_cwS 3 hts gX8_isNecklace_X5_least rfl rfl rfl (by decide +kernel) ⟨(Nat.le_of_ble_eq_true rfl), (Nat.le_of_ble_eq_true rfl)⟩) ⟨gP_blind, fun U hU hW => ⟨rfl, by rw [hU]; exact hP.sub (ws' := (w_1_2 q cI cJ cD Tn Ta)) [1, 2] rfl, gEv.warm hW hE⟩⟩ rfl rfl hl.1 rfl (lv_room (Nat.le_of_ble_eq_true rfl)) dX8_isNecklace_12 ⟨Nat.zero_le _, Nat.zero_le _⟩) hP hS (gSub rfl) rfl rfl rfl rfl rfl (fun H locs hP hS => ?_)
  refine lv_if_ne (tgt := 22) hx hb dX8_isNecklace_15 (by decide) (fun c_2 => ?_) (fun c_2 => ?_)
  · have hf := (if_neg c_2).symm.trans hf
    refine lv_iconst (v := (0 : Int32)) hx hb dX8_isNecklace_22 (by decide) ?_
    exact J23 (0 : Int32) hf _ _ hP hS _ (lv_sub hl [] rfl)
  · have hf := (if_pos c_2).symm.trans hf
    refine lv_iconst (v := (1 : Int32)) hx hb dX8_isNecklace_18 (by decide) ?_
    refine lv_goto (tgt := 23) hx hb dX8_isNecklace_19 (by decide) ?_
    exact J23 (1 : Int32) hf _ _ hP hS _ (lv_sub hl [] rfl)
set_option maxHeartbeats 4000000 in
set_option maxRecDepth 100000 in
theorem kX8_isNecklacex (l : Launch) (hlt : l.stackTraces = false) (D : va_G) (cI cJ cD : ClassId) (sa : Nat → Nat) (q : Nat → Nat) (hq : gInj q) (N : Nat) (Tn : Int32) (Ta : (Nat → Int32)) (p1 : Int32) (p2 : Int32) (e0 : Nat) (hf : fX8_isNecklace N Tn Ta p1 p2 = some (.inl e0)) : vx_Met l yX8_isNecklace wsX8_isNecklace rX8_isNecklacex (gPx D cI cJ cD sa (gA q [0, 1, 2]) [.ref (q 0), .int p1, .int p2] (w_0_1_2 q cI cJ cD Tn Ta)) (fun _ _ _ _ => False) (gX D (gEn e0) (w_0_1_2 q cI cJ cD Tn Ta) (gA q [0, 1, 2])) 1 6 (gA q [0, 1, 2]) := by
  refine vx_ofW (cc := cX8_isNecklace) (maxL := 3) (ret := (some .boolean)) (by decide +kernel) rfl ?_
  intro p e s m args below meth c s₁ B hml htab hv
  obtain ⟨rfl, hP, hE, hXe⟩ := hv
  have hx := B.exec
  have hb := B.bytes
  have hr := B.returns
  have hts := atoms_spec (ws := wsX8_isNecklace) B.pre
  have hown : s.vm.findClass RX8 = some m.cls := findClass_of_methodNamed B.named
  have hlocks := B.notSynchronized
  have hS : va_S (gA q [0, 1, 2]) s.heap s.heap [] := va_S.rf
  have hl := lv_entry ([.ref (q 0), .int p1, .int p2]) (n := 3) (Nat.le_of_ble_eq_true rfl)
  rw [lg_entry_eq]
  generalize (lg_sl ([.ref (q 0), .int p1, .int p2]) ++ List.replicate (3 - (lg_sl ([.ref (q 0), .int p1, .int p2])).length) Slot.unset).toArray = ls at hl ⊢
  have hl : lv_has ls 3 [(0, .ref (q 0)), (1, .int p1), (2, .int p2)] := hl
  have hk10 := hts (.fieldLink RX8 10 "LyndonText" "text" "LLyndonText$Letters;") (by decide +kernel)
  have huX8 : ∀ w ∈ u_ws RX8 TX8 6, w ∈ wsX8_isNecklace := by decide +kernel
  have J23 : ∀ (y0 : Int32), fX8_isNecklace_J23 N Tn Ta y0 = some (.inl e0) → ∀ (H : Heap) (locs : List Loc), va_P D vwCl (w_0_1_2 q cI cJ cD Tn Ta) H → va_S (gA q [0, 1, 2]) s.heap H locs → ∀ ls : Array Slot, lv_has ls 3 [] → W p l e (headSpec wsX8_isNecklace rX8_isNecklacex).room s m ([.ref (q 0), .int p1, .int p2] : List Value).toArray below meth c H locs 0 0 (vx_MQ below (fun _ _ _ _ => False) (gX D (gEn e0) (w_0_1_2 q cI cJ cD Tn Ta) (gA q [0, 1, 2])) ([.ref (q 0), .int p1, .int p2] : List Value).toArray s 1 6 (gA q [0, 1, 2])) (F0 m 23 ls [.int y0]) := by
    intro y0 hf H locs hP hS ls hl
    unfold fX8_isNecklace_J23 at hf
    obtain ⟨-, hf⟩ := gd_some hf
    exact nomatch hf
  unfold fX8_isNecklace at hf
  refine lv_aload_n hx hb dX8_isNecklace_0 rfl (lv_at hl 0 rfl) ?_
  refine lv_iload_n hx hb dX8_isNecklace_1 rfl (lv_at hl 1 rfl) ?_
  refine lv_iload_n hx hb dX8_isNecklace_2 rfl (lv_at hl 2 rfl) ?_
  rcases bx_some hf with ⟨e3, hc, hf⟩ | ⟨⟨⟩, hc, hf⟩
  · try dsimp only at hf
    refine g_callX (ws' := (w_0_1_2 q cI cJ cD Tn Ta)) hq [0, 1, 2] [0, 1] [.inl 0, .inl 1, .inr 2] (vx_runV (As := [.int p1, .int p2]) (rest := []) ⟨hx, hb, hml, hown, hts⟩ (kX8_checkPartx l hlt D cI cJ cD sa q hq N Tn p1 p2 e3 hc) (cwV 2 hts gX8_isNecklace_X8_checkPart rfl rfl rfl (by decide +kernel) ⟨(Nat.le_of_ble_eq_true rfl), (Nat.le_of_ble_eq_true rfl)⟩) ⟨gPx_blind, va_recv hE.1 hP (ci := 6) (q0 := 0) rfl rfl, fun U hU hW => ⟨rfl, by rw [hU]; exact hP.sub (ws' := (w_0_1 q cI cJ cD Tn)) [0, 1] rfl, gEv.warm hW hE, gXe.go hW hS (gMono rfl) hXe hU⟩⟩ rfl rfl hl.1 rfl (lv_room (Nat.le_of_ble_eq_true rfl)) dX8_isNecklace_3 ⟨(Nat.le_of_ble_eq_true rfl), (Nat.le_of_ble_eq_true rfl)⟩) hP hS (gSub rfl) rfl rfl rfl rfl (fun ce q9 H locs hP hS hce hcv hcl => ?_)
    cases hf
    exact vx_out (fun x9 hx9 => (htab x9 hx9).elim) hlocks hce hcv hcl (fun t ht hv => ⟨rfl, by rw [ht]; exact hP, hS.F ht⟩) hS.2.2 (Nat.le_of_ble_eq_true rfl) (Nat.le_of_ble_eq_true rfl)
  try dsimp only at hf
  refine g_call0 (ws' := (w_0_1_2 q cI cJ cD Tn Ta)) (st1 := []) hq [0, 1, 2] [0, 1] [.inl 0, .inl 1, .inr 2] (va_runV (As := [.int p1, .int p2]) (rest := []) ⟨hx, hb, hml, hown, hts⟩ (kX8_checkPart l D cI cJ cD q hq N Tn p1 p2 hc) (cwV 2 hts gX8_isNecklace_X8_checkPart rfl rfl rfl (by decide +kernel) ⟨(Nat.le_of_ble_eq_true rfl), (Nat.le_of_ble_eq_true rfl)⟩) ⟨gP_blind, va_recv hE.1 hP (ci := 6) (q0 := 0) rfl rfl, fun U hU hW => ⟨rfl, by rw [hU]; exact hP.sub (ws' := (w_0_1 q cI cJ cD Tn)) [0, 1] rfl, gEv.warm hW hE⟩⟩ rfl rfl hl.1 rfl (lv_room (Nat.le_of_ble_eq_true rfl)) dX8_isNecklace_3 ⟨Nat.zero_le _, Nat.zero_le _⟩) hP hS (gSub rfl) rfl rfl rfl rfl rfl (fun H locs hP hS => ?_)
  refine lv_aload_n hx hb dX8_isNecklace_6 rfl (lv_at hl 0 rfl) ?_
  refine va_get (D := D) (ci := 6) (v := .ref (q 1)) (C := RX8) (T := TX8) (N := 6) hx hb hts huX8 hown hE.1 hP 0 rfl rfl 0 (by decide) hk10 (fun _ h9 => h9) rfl dX8_isNecklace_7 ?_
  refine lv_iload_n hx hb dX8_isNecklace_10 rfl (lv_at hl 1 rfl) ?_
  refine lv_iload_n hx hb dX8_isNecklace_11 rfl (lv_at hl 2 rfl) ?_
  obtain ⟨r12, hc, hf⟩ := bn_some hf
  try dsimp only at hf
  refine g_call0 (ws' := (w_0_1_2 q cI cJ cD Tn Ta)) (st1 := [.int r12]) hq [0, 1, 2] [1, 2] [.inr 0, .inl 0, .inl 1] (va_runS (As := [.ref (q 1), .int p1, .int p2]) (rest := []) ⟨hx, hb, hml, hown, hts⟩ (kX5_least l D cI cJ cD q hq N Tn Ta p1 p2 r12 hc) (va_cwS 3 hts gX8_isNecklace_X5_least rfl rfl rfl (by decide +kernel) ⟨(Nat.le_of_ble_eq_true rfl), (Nat.le_of_ble_eq_true rfl)⟩) ⟨gP_blind, fun U hU hW => ⟨rfl, by rw [hU]; exact hP.sub (ws' := (w_1_2 q cI cJ cD Tn Ta)) [1, 2] rfl, gEv.warm hW hE⟩⟩ rfl rfl hl.1 rfl (lv_room (Nat.le_of_ble_eq_true rfl)) dX8_isNecklace_12 ⟨Nat.zero_le _, Nat.zero_le _⟩) hP hS (gSub rfl) rfl rfl rfl rfl rfl (fun H locs hP hS => ?_)
  refine lv_if_ne (tgt := 22) hx hb dX8_isNecklace_15 (by decide) (fun c_1 => ?_) (fun c_1 => ?_)
  · have hf := (if_neg c_1).symm.trans hf
    refine lv_iconst (v := (0 : Int32)) hx hb dX8_isNecklace_22 (by decide) ?_
    exact J23 (0 : Int32) hf _ _ hP hS _ (lv_sub hl [] rfl)
  · have hf := (if_pos c_1).symm.trans hf
    refine lv_iconst (v := (1 : Int32)) hx hb dX8_isNecklace_18 (by decide) ?_
    refine lv_goto (tgt := 23) hx hb dX8_isNecklace_19 (by decide) ?_
    exact J23 (1 : Int32) hf _ _ hP hS _ (lv_sub hl [] rfl)
set_option maxHeartbeats 4000000 in
set_option maxRecDepth 100000 in
theorem kX8_period (l : Launch) (D : va_G) (cI cJ cD : ClassId) (q : Nat → Nat) (hq : gInj q) (N : Nat) (Tn : Int32) (Ta : (Nat → Int32)) (Ba : (Nat → Int32)) (p1 : Int32) (p2 : Int32) (r0 : Int32) (Ba9 : (Nat → Int32)) (hf : fX8_period N Tn Ta Ba p1 p2 = some (.inr (r0, Ba9))) : Met l yX8_period wsX8_period rX8_period (gP D cI cJ cD [.ref (q 0), .int p1, .int p2] (w_0_1_2_5_6 q cI cJ cD Tn Ta Ba)) (gQ D (some (.int r0)) (w_0_1_2_5_6 q cI cJ cD Tn Ta Ba9) (gA q [0, 1, 2, 5, 6])) 0 0 (gA q [0, 1, 2, 5, 6]) := by
  refine Met.ofW (cc := cX8_period) (maxL := 3) (ret := (some .int)) (by decide +kernel) rfl ?_
  intro p e s m args below meth c s₁ B hml hv
  obtain ⟨rfl, hP, hE⟩ := hv
  have hx := B.exec
  have hb := B.bytes
  have hr := B.returns
  have hts := atoms_spec (ws := wsX8_period) B.pre
  have hown : s.vm.findClass RX8 = some m.cls := findClass_of_methodNamed B.named
  have hlocks := B.notSynchronized
  have hS : va_S (gA q [0, 1, 2, 5, 6]) s.heap s.heap [] := va_S.rf
  have hl := lv_entry ([.ref (q 0), .int p1, .int p2]) (n := 3) (Nat.le_of_ble_eq_true rfl)
  rw [lg_entry_eq]
  generalize (lg_sl ([.ref (q 0), .int p1, .int p2]) ++ List.replicate (3 - (lg_sl ([.ref (q 0), .int p1, .int p2])).length) Slot.unset).toArray = ls at hl ⊢
  have hl : lv_has ls 3 [(0, .ref (q 0)), (1, .int p1), (2, .int p2)] := hl
  have hk26 := hts (.fieldLink RX8 26 "LyndonText" "borderRow" "LLyndonText$Borders;") (by decide +kernel)
  have hk10 := hts (.fieldLink RX8 10 "LyndonText" "text" "LLyndonText$Letters;") (by decide +kernel)
  have huX8 : ∀ w ∈ u_ws RX8 TX8 6, w ∈ wsX8_period := by decide +kernel
  unfold fX8_period at hf
  refine lv_aload_n hx hb dX8_period_0 rfl (lv_at hl 0 rfl) ?_
  refine lv_iload_n hx hb dX8_period_1 rfl (lv_at hl 1 rfl) ?_
  refine lv_iload_n hx hb dX8_period_2 rfl (lv_at hl 2 rfl) ?_
  rcases bx_some hf with ⟨e3, hc, hf⟩ | ⟨⟨⟩, hc, hf⟩
  · exact nomatch hf
  try dsimp only at hf
  refine g_call0 (ws' := (w_0_1_2_5_6 q cI cJ cD Tn Ta Ba)) (st1 := []) hq [0, 1, 2, 5, 6] [0, 1] [.inl 0, .inl 1, .inr 2, .inr 3, .inr 4] (va_runV (As := [.int p1, .int p2]) (rest := []) ⟨hx, hb, hml, hown, hts⟩ (kX8_checkPart l D cI cJ cD q hq N Tn p1 p2 hc) (cwV 2 hts gX8_period_X8_checkPart rfl rfl rfl (by decide +kernel) ⟨(Nat.le_of_ble_eq_true rfl), (Nat.le_of_ble_eq_true rfl)⟩) ⟨gP_blind, va_recv hE.1 hP (ci := 6) (q0 := 0) rfl rfl, fun U hU hW => ⟨rfl, by rw [hU]; exact hP.sub (ws' := (w_0_1 q cI cJ cD Tn)) [0, 1] rfl, gEv.warm hW hE⟩⟩ rfl rfl hl.1 rfl (lv_room (Nat.le_of_ble_eq_true rfl)) dX8_period_3 ⟨Nat.zero_le _, Nat.zero_le _⟩) hP hS (gSub rfl) rfl rfl rfl rfl rfl (fun H locs hP hS => ?_)
  refine lv_aload_n hx hb dX8_period_6 rfl (lv_at hl 0 rfl) ?_
  refine va_get (D := D) (ci := 6) (v := .ref (q 5)) (C := RX8) (T := TX8) (N := 6) hx hb hts huX8 hown hE.1 hP 0 rfl rfl 2 (by decide) hk26 (fun _ h9 => h9) rfl dX8_period_7 ?_
  refine lv_aload_n hx hb dX8_period_10 rfl (lv_at hl 0 rfl) ?_
  refine va_get (D := D) (ci := 6) (v := .ref (q 1)) (C := RX8) (T := TX8) (N := 6) hx hb hts huX8 hown hE.1 hP 0 rfl rfl 0 (by decide) hk10 (fun _ h9 => h9) rfl dX8_period_11 ?_
  refine lv_iload_n hx hb dX8_period_14 rfl (lv_at hl 1 rfl) ?_
  refine lv_iload_n hx hb dX8_period_15 rfl (lv_at hl 2 rfl) ?_
  obtain ⟨⟨r16, Ba16⟩, hc, hf⟩ := bn_some hf
  try dsimp only at hf
  refine g_call0 (ws' := (w_0_1_2_5_6 q cI cJ cD Tn Ta Ba16)) (st1 := [.int r16]) hq [0, 1, 2, 5, 6] [1, 2, 5, 6] [.inr 0, .inl 0, .inl 1, .inl 2, .inl 3] (va_runV (As := [.ref (q 1), .int p1, .int p2]) (rest := []) ⟨hx, hb, hml, hown, hts⟩ (kX0_leastPeriod l D cI cJ cD q hq N Tn Ta Ba p1 p2 r16 Ba16 hc) (cwV 3 hts gX8_period_X0_leastPeriod rfl rfl rfl (by decide +kernel) ⟨(Nat.le_of_ble_eq_true rfl), (Nat.le_of_ble_eq_true rfl)⟩) ⟨gP_blind, va_recv hE.1 hP (ci := 0) (q0 := 3) rfl rfl, fun U hU hW => ⟨rfl, by rw [hU]; exact hP.sub (ws' := (w_1_2_5_6 q cI cJ cD Tn Ta Ba)) [1, 2, 3, 4] rfl, gEv.warm hW hE⟩⟩ rfl rfl hl.1 rfl (lv_room (Nat.le_of_ble_eq_true rfl)) dX8_period_16 ⟨Nat.zero_le _, Nat.zero_le _⟩) hP hS (gSub rfl) rfl rfl rfl rfl rfl (fun H locs hP hS => ?_)
  cases hf
  exact W.iret hx hb hr (fun t ht hW => ⟨⟨rfl, by rw [ht]; exact hP⟩, hS.F ht⟩) hS.2.2 dX8_period_19
set_option maxHeartbeats 4000000 in
set_option maxRecDepth 100000 in
theorem kX8_periodx (l : Launch) (hlt : l.stackTraces = false) (D : va_G) (cI cJ cD : ClassId) (sa : Nat → Nat) (q : Nat → Nat) (hq : gInj q) (N : Nat) (Tn : Int32) (Ta : (Nat → Int32)) (Ba : (Nat → Int32)) (p1 : Int32) (p2 : Int32) (e0 : Nat) (Ba9 : (Nat → Int32)) (hf : fX8_period N Tn Ta Ba p1 p2 = some (.inl (e0, Ba9))) : vx_Met l yX8_period wsX8_period rX8_periodx (gPx D cI cJ cD sa (gA q [0, 1, 2, 5, 6]) [.ref (q 0), .int p1, .int p2] (w_0_1_2_5_6 q cI cJ cD Tn Ta Ba)) (fun _ _ _ _ => False) (gX D (gEn e0) (w_0_1_2_5_6 q cI cJ cD Tn Ta Ba9) (gA q [0, 1, 2, 5, 6])) 1 6 (gA q [0, 1, 2, 5, 6]) := by
  refine vx_ofW (cc := cX8_period) (maxL := 3) (ret := (some .int)) (by decide +kernel) rfl ?_
  intro p e s m args below meth c s₁ B hml htab hv
  obtain ⟨rfl, hP, hE, hXe⟩ := hv
  have hx := B.exec
  have hb := B.bytes
  have hr := B.returns
  have hts := atoms_spec (ws := wsX8_period) B.pre
  have hown : s.vm.findClass RX8 = some m.cls := findClass_of_methodNamed B.named
  have hlocks := B.notSynchronized
  have hS : va_S (gA q [0, 1, 2, 5, 6]) s.heap s.heap [] := va_S.rf
  have hl := lv_entry ([.ref (q 0), .int p1, .int p2]) (n := 3) (Nat.le_of_ble_eq_true rfl)
  rw [lg_entry_eq]
  generalize (lg_sl ([.ref (q 0), .int p1, .int p2]) ++ List.replicate (3 - (lg_sl ([.ref (q 0), .int p1, .int p2])).length) Slot.unset).toArray = ls at hl ⊢
  have hl : lv_has ls 3 [(0, .ref (q 0)), (1, .int p1), (2, .int p2)] := hl
  have hk26 := hts (.fieldLink RX8 26 "LyndonText" "borderRow" "LLyndonText$Borders;") (by decide +kernel)
  have hk10 := hts (.fieldLink RX8 10 "LyndonText" "text" "LLyndonText$Letters;") (by decide +kernel)
  have huX8 : ∀ w ∈ u_ws RX8 TX8 6, w ∈ wsX8_period := by decide +kernel
  unfold fX8_period at hf
  refine lv_aload_n hx hb dX8_period_0 rfl (lv_at hl 0 rfl) ?_
  refine lv_iload_n hx hb dX8_period_1 rfl (lv_at hl 1 rfl) ?_
  refine lv_iload_n hx hb dX8_period_2 rfl (lv_at hl 2 rfl) ?_
  rcases bx_some hf with ⟨e3, hc, hf⟩ | ⟨⟨⟩, hc, hf⟩
  · try dsimp only at hf
    refine g_callX (ws' := (w_0_1_2_5_6 q cI cJ cD Tn Ta Ba)) hq [0, 1, 2, 5, 6] [0, 1] [.inl 0, .inl 1, .inr 2, .inr 3, .inr 4] (vx_runV (As := [.int p1, .int p2]) (rest := []) ⟨hx, hb, hml, hown, hts⟩ (kX8_checkPartx l hlt D cI cJ cD sa q hq N Tn p1 p2 e3 hc) (cwV 2 hts gX8_period_X8_checkPart rfl rfl rfl (by decide +kernel) ⟨(Nat.le_of_ble_eq_true rfl), (Nat.le_of_ble_eq_true rfl)⟩) ⟨gPx_blind, va_recv hE.1 hP (ci := 6) (q0 := 0) rfl rfl, fun U hU hW => ⟨rfl, by rw [hU]; exact hP.sub (ws' := (w_0_1 q cI cJ cD Tn)) [0, 1] rfl, gEv.warm hW hE, gXe.go hW hS (gMono rfl) hXe hU⟩⟩ rfl rfl hl.1 rfl (lv_room (Nat.le_of_ble_eq_true rfl)) dX8_period_3 ⟨(Nat.le_of_ble_eq_true rfl), (Nat.le_of_ble_eq_true rfl)⟩) hP hS (gSub rfl) rfl rfl rfl rfl (fun ce q9 H locs hP hS hce hcv hcl => ?_)
    cases hf
    exact vx_out (fun x9 hx9 => (htab x9 hx9).elim) hlocks hce hcv hcl (fun t ht hv => ⟨rfl, by rw [ht]; exact hP, hS.F ht⟩) hS.2.2 (Nat.le_of_ble_eq_true rfl) (Nat.le_of_ble_eq_true rfl)
  try dsimp only at hf
  refine g_call0 (ws' := (w_0_1_2_5_6 q cI cJ cD Tn Ta Ba)) (st1 := []) hq [0, 1, 2, 5, 6] [0, 1] [.inl 0, .inl 1, .inr 2, .inr 3, .inr 4] (va_runV (As := [.int p1, .int p2]) (rest := []) ⟨hx, hb, hml, hown, hts⟩ (kX8_checkPart l D cI cJ cD q hq N Tn p1 p2 hc) (cwV 2 hts gX8_period_X8_checkPart rfl rfl rfl (by decide +kernel) ⟨(Nat.le_of_ble_eq_true rfl), (Nat.le_of_ble_eq_true rfl)⟩) ⟨gP_blind, va_recv hE.1 hP (ci := 6) (q0 := 0) rfl rfl, fun U hU hW => ⟨rfl, by rw [hU]; exact hP.sub (ws' := (w_0_1 q cI cJ cD Tn)) [0, 1] rfl, gEv.warm hW hE⟩⟩ rfl rfl hl.1 rfl (lv_room (Nat.le_of_ble_eq_true rfl)) dX8_period_3 ⟨Nat.zero_le _, Nat.zero_le _⟩) hP hS (gSub rfl) rfl rfl rfl rfl rfl (fun H locs hP hS => ?_)
  refine lv_aload_n hx hb dX8_period_6 rfl (lv_at hl 0 rfl) ?_
  refine va_get (D := D) (ci := 6) (v := .ref (q 5)) (C := RX8) (T := TX8) (N := 6) hx hb hts huX8 hown hE.1 hP 0 rfl rfl 2 (by decide) hk26 (fun _ h9 => h9) rfl dX8_period_7 ?_
  refine lv_aload_n hx hb dX8_period_10 rfl (lv_at hl 0 rfl) ?_
  refine va_get (D := D) (ci := 6) (v := .ref (q 1)) (C := RX8) (T := TX8) (N := 6) hx hb hts huX8 hown hE.1 hP 0 rfl rfl 0 (by decide) hk10 (fun _ h9 => h9) rfl dX8_period_11 ?_
  refine lv_iload_n hx hb dX8_period_14 rfl (lv_at hl 1 rfl) ?_
  refine lv_iload_n hx hb dX8_period_15 rfl (lv_at hl 2 rfl) ?_
  obtain ⟨⟨r16, Ba16⟩, hc, hf⟩ := bn_some hf
  try dsimp only at hf
  refine g_call0 (ws' := (w_0_1_2_5_6 q cI cJ cD Tn Ta Ba16)) (st1 := [.int r16]) hq [0, 1, 2, 5, 6] [1, 2, 5, 6] [.inr 0, .inl 0, .inl 1, .inl 2, .inl 3] (va_runV (As := [.ref (q 1), .int p1, .int p2]) (rest := []) ⟨hx, hb, hml, hown, hts⟩ (kX0_leastPeriod l D cI cJ cD q hq N Tn Ta Ba p1 p2 r16 Ba16 hc) (cwV 3 hts gX8_period_X0_leastPeriod rfl rfl rfl (by decide +kernel) ⟨(Nat.le_of_ble_eq_true rfl), (Nat.le_of_ble_eq_true rfl)⟩) ⟨gP_blind, va_recv hE.1 hP (ci := 0) (q0 := 3) rfl rfl, fun U hU hW => ⟨rfl, by rw [hU]; exact hP.sub (ws' := (w_1_2_5_6 q cI cJ cD Tn Ta Ba)) [1, 2, 3, 4] rfl, gEv.warm hW hE⟩⟩ rfl rfl hl.1 rfl (lv_room (Nat.le_of_ble_eq_true rfl)) dX8_period_16 ⟨Nat.zero_le _, Nat.zero_le _⟩) hP hS (gSub rfl) rfl rfl rfl rfl rfl (fun H locs hP hS => ?_)
  exact nomatch hf
set_option maxHeartbeats 4000000 in
set_option maxRecDepth 100000 in
theorem kX8_periodByTrying (l : Launch) (D : va_G) (cI cJ cD : ClassId) (q : Nat → Nat) (hq : gInj q) (N : Nat) (Tn : Int32) (Ta : (Nat → Int32)) (p1 : Int32) (p2 : Int32) (r0 : Int32) (hf : fX8_periodByTrying N Tn Ta p1 p2 = some (.inr r0)) : Met l yX8_periodByTrying wsX8_periodByTrying rX8_periodByTrying (gP D cI cJ cD [.ref (q 0), .int p1, .int p2] (w_0_1_2 q cI cJ cD Tn Ta)) (gQ D (some (.int r0)) (w_0_1_2 q cI cJ cD Tn Ta) (gA q [0, 1, 2])) 0 0 (gA q [0, 1, 2]) := by
  refine Met.ofW (cc := cX8_periodByTrying) (maxL := 3) (ret := (some .int)) (by decide +kernel) rfl ?_
  intro p e s m args below meth c s₁ B hml hv
  obtain ⟨rfl, hP, hE⟩ := hv
  have hx := B.exec
  have hb := B.bytes
  have hr := B.returns
  have hts := atoms_spec (ws := wsX8_periodByTrying) B.pre
  have hown : s.vm.findClass RX8 = some m.cls := findClass_of_methodNamed B.named
  have hlocks := B.notSynchronized
  have hS : va_S (gA q [0, 1, 2]) s.heap s.heap [] := va_S.rf
  have hl := lv_entry ([.ref (q 0), .int p1, .int p2]) (n := 3) (Nat.le_of_ble_eq_true rfl)
  rw [lg_entry_eq]
  generalize (lg_sl ([.ref (q 0), .int p1, .int p2]) ++ List.replicate (3 - (lg_sl ([.ref (q 0), .int p1, .int p2])).length) Slot.unset).toArray = ls at hl ⊢
  have hl : lv_has ls 3 [(0, .ref (q 0)), (1, .int p1), (2, .int p2)] := hl
  have hk10 := hts (.fieldLink RX8 10 "LyndonText" "text" "LLyndonText$Letters;") (by decide +kernel)
  have huX8 : ∀ w ∈ u_ws RX8 TX8 6, w ∈ wsX8_periodByTrying := by decide +kernel
  unfold fX8_periodByTrying at hf
  refine lv_aload_n hx hb dX8_periodByTrying_0 rfl (lv_at hl 0 rfl) ?_
  refine lv_iload_n hx hb dX8_periodByTrying_1 rfl (lv_at hl 1 rfl) ?_
  refine lv_iload_n hx hb dX8_periodByTrying_2 rfl (lv_at hl 2 rfl) ?_
  rcases bx_some hf with ⟨e3, hc, hf⟩ | ⟨⟨⟩, hc, hf⟩
  · exact nomatch hf
  try dsimp only at hf
  refine g_call0 (ws' := (w_0_1_2 q cI cJ cD Tn Ta)) (st1 := []) hq [0, 1, 2] [0, 1] [.inl 0, .inl 1, .inr 2] (va_runV (As := [.int p1, .int p2]) (rest := []) ⟨hx, hb, hml, hown, hts⟩ (kX8_checkPart l D cI cJ cD q hq N Tn p1 p2 hc) (cwV 2 hts gX8_periodByTrying_X8_checkPart rfl rfl rfl (by decide +kernel) ⟨(Nat.le_of_ble_eq_true rfl), (Nat.le_of_ble_eq_true rfl)⟩) ⟨gP_blind, va_recv hE.1 hP (ci := 6) (q0 := 0) rfl rfl, fun U hU hW => ⟨rfl, by rw [hU]; exact hP.sub (ws' := (w_0_1 q cI cJ cD Tn)) [0, 1] rfl, gEv.warm hW hE⟩⟩ rfl rfl hl.1 rfl (lv_room (Nat.le_of_ble_eq_true rfl)) dX8_periodByTrying_3 ⟨Nat.zero_le _, Nat.zero_le _⟩) hP hS (gSub rfl) rfl rfl rfl rfl rfl (fun H locs hP hS => ?_)
  refine lv_aload_n hx hb dX8_periodByTrying_6 rfl (lv_at hl 0 rfl) ?_
  refine va_get (D := D) (ci := 6) (v := .ref (q 1)) (C := RX8) (T := TX8) (N := 6) hx hb hts huX8 hown hE.1 hP 0 rfl rfl 0 (by decide) hk10 (fun _ h9 => h9) rfl dX8_periodByTrying_7 ?_
  refine lv_iload_n hx hb dX8_periodByTrying_10 rfl (lv_at hl 1 rfl) ?_
  refine lv_iload_n hx hb dX8_periodByTrying_11 rfl (lv_at hl 2 rfl) ?_
  obtain ⟨r12, hc, hf⟩ := bn_some hf
  try dsimp only at hf
  refine g_call0 (ws' := (w_0_1_2 q cI cJ cD Tn Ta)) (st1 := [.int r12]) hq [0, 1, 2] [1, 2] [.inr 0, .inl 0, .inl 1] (va_runV (As := [.int p1, .int p2]) (rest := []) ⟨hx, hb, hml, hown, hts⟩ (kX2_firstPeriod l D cI cJ cD q hq N Tn Ta p1 p2 r12 hc) (cwV 2 hts gX8_periodByTrying_X2_firstPeriod rfl rfl rfl (by decide +kernel) ⟨(Nat.le_of_ble_eq_true rfl), (Nat.le_of_ble_eq_true rfl)⟩) ⟨gP_blind, va_recv hE.1 hP (ci := 2) (q0 := 1) rfl rfl, fun U hU hW => ⟨rfl, by rw [hU]; exact hP.sub (ws' := (w_1_2 q cI cJ cD Tn Ta)) [1, 2] rfl, gEv.warm hW hE⟩⟩ rfl rfl hl.1 rfl (lv_room (Nat.le_of_ble_eq_true rfl)) dX8_periodByTrying_12 ⟨Nat.zero_le _, Nat.zero_le _⟩) hP hS (gSub rfl) rfl rfl rfl rfl rfl (fun H locs hP hS => ?_)
  cases hf
  exact W.iret hx hb hr (fun t ht hW => ⟨⟨rfl, by rw [ht]; exact hP⟩, hS.F ht⟩) hS.2.2 dX8_periodByTrying_15
set_option maxHeartbeats 4000000 in
set_option maxRecDepth 100000 in
theorem kX8_periodByTryingx (l : Launch) (hlt : l.stackTraces = false) (D : va_G) (cI cJ cD : ClassId) (sa : Nat → Nat) (q : Nat → Nat) (hq : gInj q) (N : Nat) (Tn : Int32) (Ta : (Nat → Int32)) (p1 : Int32) (p2 : Int32) (e0 : Nat) (hf : fX8_periodByTrying N Tn Ta p1 p2 = some (.inl e0)) : vx_Met l yX8_periodByTrying wsX8_periodByTrying rX8_periodByTryingx (gPx D cI cJ cD sa (gA q [0, 1, 2]) [.ref (q 0), .int p1, .int p2] (w_0_1_2 q cI cJ cD Tn Ta)) (fun _ _ _ _ => False) (gX D (gEn e0) (w_0_1_2 q cI cJ cD Tn Ta) (gA q [0, 1, 2])) 1 6 (gA q [0, 1, 2]) := by
  refine vx_ofW (cc := cX8_periodByTrying) (maxL := 3) (ret := (some .int)) (by decide +kernel) rfl ?_
  intro p e s m args below meth c s₁ B hml htab hv
  obtain ⟨rfl, hP, hE, hXe⟩ := hv
  have hx := B.exec
  have hb := B.bytes
  have hr := B.returns
  have hts := atoms_spec (ws := wsX8_periodByTrying) B.pre
  have hown : s.vm.findClass RX8 = some m.cls := findClass_of_methodNamed B.named
  have hlocks := B.notSynchronized
  have hS : va_S (gA q [0, 1, 2]) s.heap s.heap [] := va_S.rf
  have hl := lv_entry ([.ref (q 0), .int p1, .int p2]) (n := 3) (Nat.le_of_ble_eq_true rfl)
  rw [lg_entry_eq]
  generalize (lg_sl ([.ref (q 0), .int p1, .int p2]) ++ List.replicate (3 - (lg_sl ([.ref (q 0), .int p1, .int p2])).length) Slot.unset).toArray = ls at hl ⊢
  have hl : lv_has ls 3 [(0, .ref (q 0)), (1, .int p1), (2, .int p2)] := hl
  have hk10 := hts (.fieldLink RX8 10 "LyndonText" "text" "LLyndonText$Letters;") (by decide +kernel)
  have huX8 : ∀ w ∈ u_ws RX8 TX8 6, w ∈ wsX8_periodByTrying := by decide +kernel
  unfold fX8_periodByTrying at hf
  refine lv_aload_n hx hb dX8_periodByTrying_0 rfl (lv_at hl 0 rfl) ?_
  refine lv_iload_n hx hb dX8_periodByTrying_1 rfl (lv_at hl 1 rfl) ?_
  refine lv_iload_n hx hb dX8_periodByTrying_2 rfl (lv_at hl 2 rfl) ?_
  rcases bx_some hf with ⟨e3, hc, hf⟩ | ⟨⟨⟩, hc, hf⟩
  · try dsimp only at hf
    refine g_callX (ws' := (w_0_1_2 q cI cJ cD Tn Ta)) hq [0, 1, 2] [0, 1] [.inl 0, .inl 1, .inr 2] (vx_runV (As := [.int p1, .int p2]) (rest := []) ⟨hx, hb, hml, hown, hts⟩ (kX8_checkPartx l hlt D cI cJ cD sa q hq N Tn p1 p2 e3 hc) (cwV 2 hts gX8_periodByTrying_X8_checkPart rfl rfl rfl (by decide +kernel) ⟨(Nat.le_of_ble_eq_true rfl), (Nat.le_of_ble_eq_true rfl)⟩) ⟨gPx_blind, va_recv hE.1 hP (ci := 6) (q0 := 0) rfl rfl, fun U hU hW => ⟨rfl, by rw [hU]; exact hP.sub (ws' := (w_0_1 q cI cJ cD Tn)) [0, 1] rfl, gEv.warm hW hE, gXe.go hW hS (gMono rfl) hXe hU⟩⟩ rfl rfl hl.1 rfl (lv_room (Nat.le_of_ble_eq_true rfl)) dX8_periodByTrying_3 ⟨(Nat.le_of_ble_eq_true rfl), (Nat.le_of_ble_eq_true rfl)⟩) hP hS (gSub rfl) rfl rfl rfl rfl (fun ce q9 H locs hP hS hce hcv hcl => ?_)
    cases hf
    exact vx_out (fun x9 hx9 => (htab x9 hx9).elim) hlocks hce hcv hcl (fun t ht hv => ⟨rfl, by rw [ht]; exact hP, hS.F ht⟩) hS.2.2 (Nat.le_of_ble_eq_true rfl) (Nat.le_of_ble_eq_true rfl)
  try dsimp only at hf
  refine g_call0 (ws' := (w_0_1_2 q cI cJ cD Tn Ta)) (st1 := []) hq [0, 1, 2] [0, 1] [.inl 0, .inl 1, .inr 2] (va_runV (As := [.int p1, .int p2]) (rest := []) ⟨hx, hb, hml, hown, hts⟩ (kX8_checkPart l D cI cJ cD q hq N Tn p1 p2 hc) (cwV 2 hts gX8_periodByTrying_X8_checkPart rfl rfl rfl (by decide +kernel) ⟨(Nat.le_of_ble_eq_true rfl), (Nat.le_of_ble_eq_true rfl)⟩) ⟨gP_blind, va_recv hE.1 hP (ci := 6) (q0 := 0) rfl rfl, fun U hU hW => ⟨rfl, by rw [hU]; exact hP.sub (ws' := (w_0_1 q cI cJ cD Tn)) [0, 1] rfl, gEv.warm hW hE⟩⟩ rfl rfl hl.1 rfl (lv_room (Nat.le_of_ble_eq_true rfl)) dX8_periodByTrying_3 ⟨Nat.zero_le _, Nat.zero_le _⟩) hP hS (gSub rfl) rfl rfl rfl rfl rfl (fun H locs hP hS => ?_)
  refine lv_aload_n hx hb dX8_periodByTrying_6 rfl (lv_at hl 0 rfl) ?_
  refine va_get (D := D) (ci := 6) (v := .ref (q 1)) (C := RX8) (T := TX8) (N := 6) hx hb hts huX8 hown hE.1 hP 0 rfl rfl 0 (by decide) hk10 (fun _ h9 => h9) rfl dX8_periodByTrying_7 ?_
  refine lv_iload_n hx hb dX8_periodByTrying_10 rfl (lv_at hl 1 rfl) ?_
  refine lv_iload_n hx hb dX8_periodByTrying_11 rfl (lv_at hl 2 rfl) ?_
  obtain ⟨r12, hc, hf⟩ := bn_some hf
  try dsimp only at hf
  refine g_call0 (ws' := (w_0_1_2 q cI cJ cD Tn Ta)) (st1 := [.int r12]) hq [0, 1, 2] [1, 2] [.inr 0, .inl 0, .inl 1] (va_runV (As := [.int p1, .int p2]) (rest := []) ⟨hx, hb, hml, hown, hts⟩ (kX2_firstPeriod l D cI cJ cD q hq N Tn Ta p1 p2 r12 hc) (cwV 2 hts gX8_periodByTrying_X2_firstPeriod rfl rfl rfl (by decide +kernel) ⟨(Nat.le_of_ble_eq_true rfl), (Nat.le_of_ble_eq_true rfl)⟩) ⟨gP_blind, va_recv hE.1 hP (ci := 2) (q0 := 1) rfl rfl, fun U hU hW => ⟨rfl, by rw [hU]; exact hP.sub (ws' := (w_1_2 q cI cJ cD Tn Ta)) [1, 2] rfl, gEv.warm hW hE⟩⟩ rfl rfl hl.1 rfl (lv_room (Nat.le_of_ble_eq_true rfl)) dX8_periodByTrying_12 ⟨Nat.zero_le _, Nat.zero_le _⟩) hP hS (gSub rfl) rfl rfl rfl rfl rfl (fun H locs hP hS => ?_)
  exact nomatch hf
set_option maxHeartbeats 4000000 in
set_option maxRecDepth 100000 in
theorem kX8_isPeriod (l : Launch) (D : va_G) (cI cJ cD : ClassId) (q : Nat → Nat) (hq : gInj q) (N : Nat) (Tn : Int32) (Ta : (Nat → Int32)) (p1 : Int32) (p2 : Int32) (p3 : Int32) (r0 : Int32) (hf : fX8_isPeriod N Tn Ta p1 p2 p3 = some (.inr r0)) : Met l yX8_isPeriod wsX8_isPeriod rX8_isPeriod (gP D cI cJ cD [.ref (q 0), .int p1, .int p2, .int p3] (w_0_1_2 q cI cJ cD Tn Ta)) (gQ D (some (.int r0)) (w_0_1_2 q cI cJ cD Tn Ta) (gA q [0, 1, 2])) 0 0 (gA q [0, 1, 2]) := by
  refine Met.ofW (cc := cX8_isPeriod) (maxL := 4) (ret := (some .boolean)) (by decide +kernel) rfl ?_
  intro p e s m args below meth c s₁ B hml hv
  obtain ⟨rfl, hP, hE⟩ := hv
  have hx := B.exec
  have hb := B.bytes
  have hr := B.returns
  have hts := atoms_spec (ws := wsX8_isPeriod) B.pre
  have hown : s.vm.findClass RX8 = some m.cls := findClass_of_methodNamed B.named
  have hlocks := B.notSynchronized
  have hS : va_S (gA q [0, 1, 2]) s.heap s.heap [] := va_S.rf
  have hl := lv_entry ([.ref (q 0), .int p1, .int p2, .int p3]) (n := 4) (Nat.le_of_ble_eq_true rfl)
  rw [lg_entry_eq]
  generalize (lg_sl ([.ref (q 0), .int p1, .int p2, .int p3]) ++ List.replicate (4 - (lg_sl ([.ref (q 0), .int p1, .int p2, .int p3])).length) Slot.unset).toArray = ls at hl ⊢
  have hl : lv_has ls 4 [(0, .ref (q 0)), (1, .int p1), (2, .int p2), (3, .int p3)] := hl
  have hk10 := hts (.fieldLink RX8 10 "LyndonText" "text" "LLyndonText$Letters;") (by decide +kernel)
  have huX8 : ∀ w ∈ u_ws RX8 TX8 6, w ∈ wsX8_isPeriod := by decide +kernel
  unfold fX8_isPeriod at hf
  refine lv_aload_n hx hb dX8_isPeriod_0 rfl (lv_at hl 0 rfl) ?_
  refine lv_iload_n hx hb dX8_isPeriod_1 rfl (lv_at hl 1 rfl) ?_
  refine lv_iload_n hx hb dX8_isPeriod_2 rfl (lv_at hl 2 rfl) ?_
  rcases bx_some hf with ⟨e3, hc, hf⟩ | ⟨⟨⟩, hc, hf⟩
  · exact nomatch hf
  try dsimp only at hf
  refine g_call0 (ws' := (w_0_1_2 q cI cJ cD Tn Ta)) (st1 := []) hq [0, 1, 2] [0, 1] [.inl 0, .inl 1, .inr 2] (va_runV (As := [.int p1, .int p2]) (rest := []) ⟨hx, hb, hml, hown, hts⟩ (kX8_checkPart l D cI cJ cD q hq N Tn p1 p2 hc) (cwV 2 hts gX8_isPeriod_X8_checkPart rfl rfl rfl (by decide +kernel) ⟨(Nat.le_of_ble_eq_true rfl), (Nat.le_of_ble_eq_true rfl)⟩) ⟨gP_blind, va_recv hE.1 hP (ci := 6) (q0 := 0) rfl rfl, fun U hU hW => ⟨rfl, by rw [hU]; exact hP.sub (ws' := (w_0_1 q cI cJ cD Tn)) [0, 1] rfl, gEv.warm hW hE⟩⟩ rfl rfl hl.1 rfl (lv_room (Nat.le_of_ble_eq_true rfl)) dX8_isPeriod_3 ⟨Nat.zero_le _, Nat.zero_le _⟩) hP hS (gSub rfl) rfl rfl rfl rfl rfl (fun H locs hP hS => ?_)
  refine lv_iload_n hx hb dX8_isPeriod_6 rfl (lv_at hl 3 rfl) ?_
  refine lv_iconst (v := (1 : Int32)) hx hb dX8_isPeriod_7 (by decide) ?_
  refine lv_iload_n hx hb dX8_isPeriod_8 rfl (lv_at hl 2 rfl) ?_
  refine lv_iload_n hx hb dX8_isPeriod_9 rfl (lv_at hl 1 rfl) ?_
  refine lv_isub hx hb dX8_isPeriod_10 ?_
  rcases bx_some hf with ⟨e11, hc, hf⟩ | ⟨⟨⟩, hc, hf⟩
  · exact nomatch hf
  try dsimp only at hf
  refine g_call0 (ws' := (w_0_1_2 q cI cJ cD Tn Ta)) (st1 := []) hq [0, 1, 2] [] [.inr 0, .inr 1, .inr 2] (va_runS (As := [.int p3, .int (1 : Int32), .int (p2 - p1)]) (rest := []) ⟨hx, hb, hml, hown, hts⟩ (kX8_checkArgument l D cI cJ cD q hq N p3 (1 : Int32) (p2 - p1) hc) (va_cwS 3 hts gX8_isPeriod_X8_checkArgument rfl rfl rfl (by decide +kernel) ⟨(Nat.le_of_ble_eq_true rfl), (Nat.le_of_ble_eq_true rfl)⟩) ⟨gP_blind, fun U hU hW => ⟨rfl, by rw [hU]; exact hP.sub (ws' := (w_0none q cI cJ cD)) [] rfl, gEv.warm hW hE⟩⟩ rfl rfl hl.1 rfl (lv_room (Nat.le_of_ble_eq_true rfl)) dX8_isPeriod_11 ⟨Nat.zero_le _, Nat.zero_le _⟩) hP hS (gSub rfl) rfl rfl rfl rfl rfl (fun H locs hP hS => ?_)
  refine lv_aload_n hx hb dX8_isPeriod_14 rfl (lv_at hl 0 rfl) ?_
  refine va_get (D := D) (ci := 6) (v := .ref (q 1)) (C := RX8) (T := TX8) (N := 6) hx hb hts huX8 hown hE.1 hP 0 rfl rfl 0 (by decide) hk10 (fun _ h9 => h9) rfl dX8_isPeriod_15 ?_
  refine lv_iload_n hx hb dX8_isPeriod_18 rfl (lv_at hl 1 rfl) ?_
  refine lv_iload_n hx hb dX8_isPeriod_19 rfl (lv_at hl 2 rfl) ?_
  refine lv_iload_n hx hb dX8_isPeriod_20 rfl (lv_at hl 3 rfl) ?_
  obtain ⟨r21, hc, hf⟩ := bn_some hf
  try dsimp only at hf
  refine g_call0 (ws' := (w_0_1_2 q cI cJ cD Tn Ta)) (st1 := [.int r21]) hq [0, 1, 2] [1, 2] [.inr 0, .inl 0, .inl 1] (va_runV (As := [.int p1, .int p2, .int p3]) (rest := []) ⟨hx, hb, hml, hown, hts⟩ (kX2_keepsPeriod l D cI cJ cD q hq N Tn Ta p1 p2 p3 r21 hc) (cwV 3 hts gX8_isPeriod_X2_keepsPeriod rfl rfl rfl (by decide +kernel) ⟨(Nat.le_of_ble_eq_true rfl), (Nat.le_of_ble_eq_true rfl)⟩) ⟨gP_blind, va_recv hE.1 hP (ci := 2) (q0 := 1) rfl rfl, fun U hU hW => ⟨rfl, by rw [hU]; exact hP.sub (ws' := (w_1_2 q cI cJ cD Tn Ta)) [1, 2] rfl, gEv.warm hW hE⟩⟩ rfl rfl hl.1 rfl (lv_room (Nat.le_of_ble_eq_true rfl)) dX8_isPeriod_21 ⟨Nat.zero_le _, Nat.zero_le _⟩) hP hS (gSub rfl) rfl rfl rfl rfl rfl (fun H locs hP hS => ?_)
  obtain ⟨g_1, hf⟩ := gd_some hf
  cases hf
  exact W.zret (ty := .boolean) hx hb hr (isB_nar g_1) (fun t ht hW => ⟨⟨rfl, by rw [ht]; exact hP⟩, hS.F ht⟩) hS.2.2 dX8_isPeriod_24
set_option maxHeartbeats 4000000 in
set_option maxRecDepth 100000 in
theorem kX8_isPeriodx (l : Launch) (hlt : l.stackTraces = false) (D : va_G) (cI cJ cD : ClassId) (sa : Nat → Nat) (q : Nat → Nat) (hq : gInj q) (N : Nat) (Tn : Int32) (Ta : (Nat → Int32)) (p1 : Int32) (p2 : Int32) (p3 : Int32) (e0 : Nat) (hf : fX8_isPeriod N Tn Ta p1 p2 p3 = some (.inl e0)) : vx_Met l yX8_isPeriod wsX8_isPeriod rX8_isPeriodx (gPx D cI cJ cD sa (gA q [0, 1, 2]) [.ref (q 0), .int p1, .int p2, .int p3] (w_0_1_2 q cI cJ cD Tn Ta)) (fun _ _ _ _ => False) (gX D (gEn e0) (w_0_1_2 q cI cJ cD Tn Ta) (gA q [0, 1, 2])) 1 6 (gA q [0, 1, 2]) := by
  refine vx_ofW (cc := cX8_isPeriod) (maxL := 4) (ret := (some .boolean)) (by decide +kernel) rfl ?_
  intro p e s m args below meth c s₁ B hml htab hv
  obtain ⟨rfl, hP, hE, hXe⟩ := hv
  have hx := B.exec
  have hb := B.bytes
  have hr := B.returns
  have hts := atoms_spec (ws := wsX8_isPeriod) B.pre
  have hown : s.vm.findClass RX8 = some m.cls := findClass_of_methodNamed B.named
  have hlocks := B.notSynchronized
  have hS : va_S (gA q [0, 1, 2]) s.heap s.heap [] := va_S.rf
  have hl := lv_entry ([.ref (q 0), .int p1, .int p2, .int p3]) (n := 4) (Nat.le_of_ble_eq_true rfl)
  rw [lg_entry_eq]
  generalize (lg_sl ([.ref (q 0), .int p1, .int p2, .int p3]) ++ List.replicate (4 - (lg_sl ([.ref (q 0), .int p1, .int p2, .int p3])).length) Slot.unset).toArray = ls at hl ⊢
  have hl : lv_has ls 4 [(0, .ref (q 0)), (1, .int p1), (2, .int p2), (3, .int p3)] := hl
  have hk10 := hts (.fieldLink RX8 10 "LyndonText" "text" "LLyndonText$Letters;") (by decide +kernel)
  have huX8 : ∀ w ∈ u_ws RX8 TX8 6, w ∈ wsX8_isPeriod := by decide +kernel
  unfold fX8_isPeriod at hf
  refine lv_aload_n hx hb dX8_isPeriod_0 rfl (lv_at hl 0 rfl) ?_
  refine lv_iload_n hx hb dX8_isPeriod_1 rfl (lv_at hl 1 rfl) ?_
  refine lv_iload_n hx hb dX8_isPeriod_2 rfl (lv_at hl 2 rfl) ?_
  rcases bx_some hf with ⟨e3, hc, hf⟩ | ⟨⟨⟩, hc, hf⟩
  · try dsimp only at hf
    refine g_callX (ws' := (w_0_1_2 q cI cJ cD Tn Ta)) hq [0, 1, 2] [0, 1] [.inl 0, .inl 1, .inr 2] (vx_runV (As := [.int p1, .int p2]) (rest := []) ⟨hx, hb, hml, hown, hts⟩ (kX8_checkPartx l hlt D cI cJ cD sa q hq N Tn p1 p2 e3 hc) (cwV 2 hts gX8_isPeriod_X8_checkPart rfl rfl rfl (by decide +kernel) ⟨(Nat.le_of_ble_eq_true rfl), (Nat.le_of_ble_eq_true rfl)⟩) ⟨gPx_blind, va_recv hE.1 hP (ci := 6) (q0 := 0) rfl rfl, fun U hU hW => ⟨rfl, by rw [hU]; exact hP.sub (ws' := (w_0_1 q cI cJ cD Tn)) [0, 1] rfl, gEv.warm hW hE, gXe.go hW hS (gMono rfl) hXe hU⟩⟩ rfl rfl hl.1 rfl (lv_room (Nat.le_of_ble_eq_true rfl)) dX8_isPeriod_3 ⟨(Nat.le_of_ble_eq_true rfl), (Nat.le_of_ble_eq_true rfl)⟩) hP hS (gSub rfl) rfl rfl rfl rfl (fun ce q9 H locs hP hS hce hcv hcl => ?_)
    cases hf
    exact vx_out (fun x9 hx9 => (htab x9 hx9).elim) hlocks hce hcv hcl (fun t ht hv => ⟨rfl, by rw [ht]; exact hP, hS.F ht⟩) hS.2.2 (Nat.le_of_ble_eq_true rfl) (Nat.le_of_ble_eq_true rfl)
  try dsimp only at hf
  refine g_call0 (ws' := (w_0_1_2 q cI cJ cD Tn Ta)) (st1 := []) hq [0, 1, 2] [0, 1] [.inl 0, .inl 1, .inr 2] (va_runV (As := [.int p1, .int p2]) (rest := []) ⟨hx, hb, hml, hown, hts⟩ (kX8_checkPart l D cI cJ cD q hq N Tn p1 p2 hc) (cwV 2 hts gX8_isPeriod_X8_checkPart rfl rfl rfl (by decide +kernel) ⟨(Nat.le_of_ble_eq_true rfl), (Nat.le_of_ble_eq_true rfl)⟩) ⟨gP_blind, va_recv hE.1 hP (ci := 6) (q0 := 0) rfl rfl, fun U hU hW => ⟨rfl, by rw [hU]; exact hP.sub (ws' := (w_0_1 q cI cJ cD Tn)) [0, 1] rfl, gEv.warm hW hE⟩⟩ rfl rfl hl.1 rfl (lv_room (Nat.le_of_ble_eq_true rfl)) dX8_isPeriod_3 ⟨Nat.zero_le _, Nat.zero_le _⟩) hP hS (gSub rfl) rfl rfl rfl rfl rfl (fun H locs hP hS => ?_)
  refine lv_iload_n hx hb dX8_isPeriod_6 rfl (lv_at hl 3 rfl) ?_
  refine lv_iconst (v := (1 : Int32)) hx hb dX8_isPeriod_7 (by decide) ?_
  refine lv_iload_n hx hb dX8_isPeriod_8 rfl (lv_at hl 2 rfl) ?_
  refine lv_iload_n hx hb dX8_isPeriod_9 rfl (lv_at hl 1 rfl) ?_
  refine lv_isub hx hb dX8_isPeriod_10 ?_
  rcases bx_some hf with ⟨e11, hc, hf⟩ | ⟨⟨⟩, hc, hf⟩
  · try dsimp only at hf
    refine g_callX (ws' := (w_0_1_2 q cI cJ cD Tn Ta)) hq [0, 1, 2] [] [.inr 0, .inr 1, .inr 2] (vx_runS (As := [.int p3, .int (1 : Int32), .int (p2 - p1)]) (rest := []) ⟨hx, hb, hml, hown, hts⟩ (kX8_checkArgumentx l hlt D cI cJ cD sa q hq N p3 (1 : Int32) (p2 - p1) e11 hc) (va_cwS 3 hts gX8_isPeriod_X8_checkArgument rfl rfl rfl (by decide +kernel) ⟨(Nat.le_of_ble_eq_true rfl), (Nat.le_of_ble_eq_true rfl)⟩) ⟨gPx_blind, fun U hU hW => ⟨rfl, by rw [hU]; exact hP.sub (ws' := (w_0none q cI cJ cD)) [] rfl, gEv.warm hW hE, gXe.go hW hS (gMono rfl) hXe hU⟩⟩ rfl rfl hl.1 rfl (lv_room (Nat.le_of_ble_eq_true rfl)) dX8_isPeriod_11 ⟨(Nat.le_of_ble_eq_true rfl), (Nat.le_of_ble_eq_true rfl)⟩) hP hS (gSub rfl) rfl rfl rfl rfl (fun ce q9 H locs hP hS hce hcv hcl => ?_)
    cases hf
    exact vx_out (fun x9 hx9 => (htab x9 hx9).elim) hlocks hce hcv hcl (fun t ht hv => ⟨rfl, by rw [ht]; exact hP, hS.F ht⟩) hS.2.2 (Nat.le_of_ble_eq_true rfl) (Nat.le_of_ble_eq_true rfl)
  try dsimp only at hf
  refine g_call0 (ws' := (w_0_1_2 q cI cJ cD Tn Ta)) (st1 := []) hq [0, 1, 2] [] [.inr 0, .inr 1, .inr 2] (va_runS (As := [.int p3, .int (1 : Int32), .int (p2 - p1)]) (rest := []) ⟨hx, hb, hml, hown, hts⟩ (kX8_checkArgument l D cI cJ cD q hq N p3 (1 : Int32) (p2 - p1) hc) (va_cwS 3 hts gX8_isPeriod_X8_checkArgument rfl rfl rfl (by decide +kernel) ⟨(Nat.le_of_ble_eq_true rfl), (Nat.le_of_ble_eq_true rfl)⟩) ⟨gP_blind, fun U hU hW => ⟨rfl, by rw [hU]; exact hP.sub (ws' := (w_0none q cI cJ cD)) [] rfl, gEv.warm hW hE⟩⟩ rfl rfl hl.1 rfl (lv_room (Nat.le_of_ble_eq_true rfl)) dX8_isPeriod_11 ⟨Nat.zero_le _, Nat.zero_le _⟩) hP hS (gSub rfl) rfl rfl rfl rfl rfl (fun H locs hP hS => ?_)
  refine lv_aload_n hx hb dX8_isPeriod_14 rfl (lv_at hl 0 rfl) ?_
  refine va_get (D := D) (ci := 6) (v := .ref (q 1)) (C := RX8) (T := TX8) (N := 6) hx hb hts huX8 hown hE.1 hP 0 rfl rfl 0 (by decide) hk10 (fun _ h9 => h9) rfl dX8_isPeriod_15 ?_
  refine lv_iload_n hx hb dX8_isPeriod_18 rfl (lv_at hl 1 rfl) ?_
  refine lv_iload_n hx hb dX8_isPeriod_19 rfl (lv_at hl 2 rfl) ?_
  refine lv_iload_n hx hb dX8_isPeriod_20 rfl (lv_at hl 3 rfl) ?_
  obtain ⟨r21, hc, hf⟩ := bn_some hf
  try dsimp only at hf
  refine g_call0 (ws' := (w_0_1_2 q cI cJ cD Tn Ta)) (st1 := [.int r21]) hq [0, 1, 2] [1, 2] [.inr 0, .inl 0, .inl 1] (va_runV (As := [.int p1, .int p2, .int p3]) (rest := []) ⟨hx, hb, hml, hown, hts⟩ (kX2_keepsPeriod l D cI cJ cD q hq N Tn Ta p1 p2 p3 r21 hc) (cwV 3 hts gX8_isPeriod_X2_keepsPeriod rfl rfl rfl (by decide +kernel) ⟨(Nat.le_of_ble_eq_true rfl), (Nat.le_of_ble_eq_true rfl)⟩) ⟨gP_blind, va_recv hE.1 hP (ci := 2) (q0 := 1) rfl rfl, fun U hU hW => ⟨rfl, by rw [hU]; exact hP.sub (ws' := (w_1_2 q cI cJ cD Tn Ta)) [1, 2] rfl, gEv.warm hW hE⟩⟩ rfl rfl hl.1 rfl (lv_room (Nat.le_of_ble_eq_true rfl)) dX8_isPeriod_21 ⟨Nat.zero_le _, Nat.zero_le _⟩) hP hS (gSub rfl) rfl rfl rfl rfl rfl (fun H locs hP hS => ?_)
  obtain ⟨-, hf⟩ := gd_some hf
  exact nomatch hf
set_option maxHeartbeats 4000000 in
set_option maxRecDepth 100000 in
theorem kX8_periods (l : Launch) (D : va_G) (cI cJ cD : ClassId) (q : Nat → Nat) (hq : gInj q) (N : Nat) (Tn : Int32) (Ta : (Nat → Int32)) (Ba : (Nat → Int32)) (p1 : Int32) (p2 : Int32) (r0 : Int32) (Ba9 : (Nat → Int32)) (hf : fX8_periods N Tn Ta Ba p1 p2 = some (.inr (r0, Ba9))) : Met l yX8_periods wsX8_periods rX8_periods (gP D cI cJ cD [.ref (q 0), .int p1, .int p2] (w_0_1_2_5_6 q cI cJ cD Tn Ta Ba)) (gQ D (some (.int r0)) (w_0_1_2_5_6 q cI cJ cD Tn Ta Ba9) (gA q [0, 1, 2, 5, 6])) 0 0 (gA q [0, 1, 2, 5, 6]) := by
  refine Met.ofW (cc := cX8_periods) (maxL := 3) (ret := (some .int)) (by decide +kernel) rfl ?_
  intro p e s m args below meth c s₁ B hml hv
  obtain ⟨rfl, hP, hE⟩ := hv
  have hx := B.exec
  have hb := B.bytes
  have hr := B.returns
  have hts := atoms_spec (ws := wsX8_periods) B.pre
  have hown : s.vm.findClass RX8 = some m.cls := findClass_of_methodNamed B.named
  have hlocks := B.notSynchronized
  have hS : va_S (gA q [0, 1, 2, 5, 6]) s.heap s.heap [] := va_S.rf
  have hl := lv_entry ([.ref (q 0), .int p1, .int p2]) (n := 3) (Nat.le_of_ble_eq_true rfl)
  rw [lg_entry_eq]
  generalize (lg_sl ([.ref (q 0), .int p1, .int p2]) ++ List.replicate (3 - (lg_sl ([.ref (q 0), .int p1, .int p2])).length) Slot.unset).toArray = ls at hl ⊢
  have hl : lv_has ls 3 [(0, .ref (q 0)), (1, .int p1), (2, .int p2)] := hl
  have hk26 := hts (.fieldLink RX8 26 "LyndonText" "borderRow" "LLyndonText$Borders;") (by decide +kernel)
  have hk10 := hts (.fieldLink RX8 10 "LyndonText" "text" "LLyndonText$Letters;") (by decide +kernel)
  have huX8 : ∀ w ∈ u_ws RX8 TX8 6, w ∈ wsX8_periods := by decide +kernel
  unfold fX8_periods at hf
  refine lv_aload_n hx hb dX8_periods_0 rfl (lv_at hl 0 rfl) ?_
  refine lv_iload_n hx hb dX8_periods_1 rfl (lv_at hl 1 rfl) ?_
  refine lv_iload_n hx hb dX8_periods_2 rfl (lv_at hl 2 rfl) ?_
  rcases bx_some hf with ⟨e3, hc, hf⟩ | ⟨⟨⟩, hc, hf⟩
  · exact nomatch hf
  try dsimp only at hf
  refine g_call0 (ws' := (w_0_1_2_5_6 q cI cJ cD Tn Ta Ba)) (st1 := []) hq [0, 1, 2, 5, 6] [0, 1] [.inl 0, .inl 1, .inr 2, .inr 3, .inr 4] (va_runV (As := [.int p1, .int p2]) (rest := []) ⟨hx, hb, hml, hown, hts⟩ (kX8_checkPart l D cI cJ cD q hq N Tn p1 p2 hc) (cwV 2 hts gX8_periods_X8_checkPart rfl rfl rfl (by decide +kernel) ⟨(Nat.le_of_ble_eq_true rfl), (Nat.le_of_ble_eq_true rfl)⟩) ⟨gP_blind, va_recv hE.1 hP (ci := 6) (q0 := 0) rfl rfl, fun U hU hW => ⟨rfl, by rw [hU]; exact hP.sub (ws' := (w_0_1 q cI cJ cD Tn)) [0, 1] rfl, gEv.warm hW hE⟩⟩ rfl rfl hl.1 rfl (lv_room (Nat.le_of_ble_eq_true rfl)) dX8_periods_3 ⟨Nat.zero_le _, Nat.zero_le _⟩) hP hS (gSub rfl) rfl rfl rfl rfl rfl (fun H locs hP hS => ?_)
  refine lv_aload_n hx hb dX8_periods_6 rfl (lv_at hl 0 rfl) ?_
  refine va_get (D := D) (ci := 6) (v := .ref (q 5)) (C := RX8) (T := TX8) (N := 6) hx hb hts huX8 hown hE.1 hP 0 rfl rfl 2 (by decide) hk26 (fun _ h9 => h9) rfl dX8_periods_7 ?_
  refine lv_aload_n hx hb dX8_periods_10 rfl (lv_at hl 0 rfl) ?_
  refine va_get (D := D) (ci := 6) (v := .ref (q 1)) (C := RX8) (T := TX8) (N := 6) hx hb hts huX8 hown hE.1 hP 0 rfl rfl 0 (by decide) hk10 (fun _ h9 => h9) rfl dX8_periods_11 ?_
  refine lv_iload_n hx hb dX8_periods_14 rfl (lv_at hl 1 rfl) ?_
  refine lv_iload_n hx hb dX8_periods_15 rfl (lv_at hl 2 rfl) ?_
  obtain ⟨⟨r16, Ba16⟩, hc, hf⟩ := bn_some hf
  try dsimp only at hf
  refine g_call0 (ws' := (w_0_1_2_5_6 q cI cJ cD Tn Ta Ba16)) (st1 := [.int r16]) hq [0, 1, 2, 5, 6] [1, 2, 5, 6] [.inr 0, .inl 0, .inl 1, .inl 2, .inl 3] (va_runV (As := [.ref (q 1), .int p1, .int p2]) (rest := []) ⟨hx, hb, hml, hown, hts⟩ (kX0_countAll l D cI cJ cD q hq N Tn Ta Ba p1 p2 r16 Ba16 hc) (cwV 3 hts gX8_periods_X0_countAll rfl rfl rfl (by decide +kernel) ⟨(Nat.le_of_ble_eq_true rfl), (Nat.le_of_ble_eq_true rfl)⟩) ⟨gP_blind, va_recv hE.1 hP (ci := 0) (q0 := 3) rfl rfl, fun U hU hW => ⟨rfl, by rw [hU]; exact hP.sub (ws' := (w_1_2_5_6 q cI cJ cD Tn Ta Ba)) [1, 2, 3, 4] rfl, gEv.warm hW hE⟩⟩ rfl rfl hl.1 rfl (lv_room (Nat.le_of_ble_eq_true rfl)) dX8_periods_16 ⟨Nat.zero_le _, Nat.zero_le _⟩) hP hS (gSub rfl) rfl rfl rfl rfl rfl (fun H locs hP hS => ?_)
  cases hf
  exact W.iret hx hb hr (fun t ht hW => ⟨⟨rfl, by rw [ht]; exact hP⟩, hS.F ht⟩) hS.2.2 dX8_periods_19
set_option maxHeartbeats 4000000 in
set_option maxRecDepth 100000 in
theorem kX8_periodsx (l : Launch) (hlt : l.stackTraces = false) (D : va_G) (cI cJ cD : ClassId) (sa : Nat → Nat) (q : Nat → Nat) (hq : gInj q) (N : Nat) (Tn : Int32) (Ta : (Nat → Int32)) (Ba : (Nat → Int32)) (p1 : Int32) (p2 : Int32) (e0 : Nat) (Ba9 : (Nat → Int32)) (hf : fX8_periods N Tn Ta Ba p1 p2 = some (.inl (e0, Ba9))) : vx_Met l yX8_periods wsX8_periods rX8_periodsx (gPx D cI cJ cD sa (gA q [0, 1, 2, 5, 6]) [.ref (q 0), .int p1, .int p2] (w_0_1_2_5_6 q cI cJ cD Tn Ta Ba)) (fun _ _ _ _ => False) (gX D (gEn e0) (w_0_1_2_5_6 q cI cJ cD Tn Ta Ba9) (gA q [0, 1, 2, 5, 6])) 1 6 (gA q [0, 1, 2, 5, 6]) := by
  refine vx_ofW (cc := cX8_periods) (maxL := 3) (ret := (some .int)) (by decide +kernel) rfl ?_
  intro p e s m args below meth c s₁ B hml htab hv
  obtain ⟨rfl, hP, hE, hXe⟩ := hv
  have hx := B.exec
  have hb := B.bytes
  have hr := B.returns
  have hts := atoms_spec (ws := wsX8_periods) B.pre
  have hown : s.vm.findClass RX8 = some m.cls := findClass_of_methodNamed B.named
  have hlocks := B.notSynchronized
  have hS : va_S (gA q [0, 1, 2, 5, 6]) s.heap s.heap [] := va_S.rf
  have hl := lv_entry ([.ref (q 0), .int p1, .int p2]) (n := 3) (Nat.le_of_ble_eq_true rfl)
  rw [lg_entry_eq]
  generalize (lg_sl ([.ref (q 0), .int p1, .int p2]) ++ List.replicate (3 - (lg_sl ([.ref (q 0), .int p1, .int p2])).length) Slot.unset).toArray = ls at hl ⊢
  have hl : lv_has ls 3 [(0, .ref (q 0)), (1, .int p1), (2, .int p2)] := hl
  have hk26 := hts (.fieldLink RX8 26 "LyndonText" "borderRow" "LLyndonText$Borders;") (by decide +kernel)
  have hk10 := hts (.fieldLink RX8 10 "LyndonText" "text" "LLyndonText$Letters;") (by decide +kernel)
  have huX8 : ∀ w ∈ u_ws RX8 TX8 6, w ∈ wsX8_periods := by decide +kernel
  unfold fX8_periods at hf
  refine lv_aload_n hx hb dX8_periods_0 rfl (lv_at hl 0 rfl) ?_
  refine lv_iload_n hx hb dX8_periods_1 rfl (lv_at hl 1 rfl) ?_
  refine lv_iload_n hx hb dX8_periods_2 rfl (lv_at hl 2 rfl) ?_
  rcases bx_some hf with ⟨e3, hc, hf⟩ | ⟨⟨⟩, hc, hf⟩
  · try dsimp only at hf
    refine g_callX (ws' := (w_0_1_2_5_6 q cI cJ cD Tn Ta Ba)) hq [0, 1, 2, 5, 6] [0, 1] [.inl 0, .inl 1, .inr 2, .inr 3, .inr 4] (vx_runV (As := [.int p1, .int p2]) (rest := []) ⟨hx, hb, hml, hown, hts⟩ (kX8_checkPartx l hlt D cI cJ cD sa q hq N Tn p1 p2 e3 hc) (cwV 2 hts gX8_periods_X8_checkPart rfl rfl rfl (by decide +kernel) ⟨(Nat.le_of_ble_eq_true rfl), (Nat.le_of_ble_eq_true rfl)⟩) ⟨gPx_blind, va_recv hE.1 hP (ci := 6) (q0 := 0) rfl rfl, fun U hU hW => ⟨rfl, by rw [hU]; exact hP.sub (ws' := (w_0_1 q cI cJ cD Tn)) [0, 1] rfl, gEv.warm hW hE, gXe.go hW hS (gMono rfl) hXe hU⟩⟩ rfl rfl hl.1 rfl (lv_room (Nat.le_of_ble_eq_true rfl)) dX8_periods_3 ⟨(Nat.le_of_ble_eq_true rfl), (Nat.le_of_ble_eq_true rfl)⟩) hP hS (gSub rfl) rfl rfl rfl rfl (fun ce q9 H locs hP hS hce hcv hcl => ?_)
    cases hf
    exact vx_out (fun x9 hx9 => (htab x9 hx9).elim) hlocks hce hcv hcl (fun t ht hv => ⟨rfl, by rw [ht]; exact hP, hS.F ht⟩) hS.2.2 (Nat.le_of_ble_eq_true rfl) (Nat.le_of_ble_eq_true rfl)
  try dsimp only at hf
  refine g_call0 (ws' := (w_0_1_2_5_6 q cI cJ cD Tn Ta Ba)) (st1 := []) hq [0, 1, 2, 5, 6] [0, 1] [.inl 0, .inl 1, .inr 2, .inr 3, .inr 4] (va_runV (As := [.int p1, .int p2]) (rest := []) ⟨hx, hb, hml, hown, hts⟩ (kX8_checkPart l D cI cJ cD q hq N Tn p1 p2 hc) (cwV 2 hts gX8_periods_X8_checkPart rfl rfl rfl (by decide +kernel) ⟨(Nat.le_of_ble_eq_true rfl), (Nat.le_of_ble_eq_true rfl)⟩) ⟨gP_blind, va_recv hE.1 hP (ci := 6) (q0 := 0) rfl rfl, fun U hU hW => ⟨rfl, by rw [hU]; exact hP.sub (ws' := (w_0_1 q cI cJ cD Tn)) [0, 1] rfl, gEv.warm hW hE⟩⟩ rfl rfl hl.1 rfl (lv_room (Nat.le_of_ble_eq_true rfl)) dX8_periods_3 ⟨Nat.zero_le _, Nat.zero_le _⟩) hP hS (gSub rfl) rfl rfl rfl rfl rfl (fun H locs hP hS => ?_)
  refine lv_aload_n hx hb dX8_periods_6 rfl (lv_at hl 0 rfl) ?_
  refine va_get (D := D) (ci := 6) (v := .ref (q 5)) (C := RX8) (T := TX8) (N := 6) hx hb hts huX8 hown hE.1 hP 0 rfl rfl 2 (by decide) hk26 (fun _ h9 => h9) rfl dX8_periods_7 ?_
  refine lv_aload_n hx hb dX8_periods_10 rfl (lv_at hl 0 rfl) ?_
  refine va_get (D := D) (ci := 6) (v := .ref (q 1)) (C := RX8) (T := TX8) (N := 6) hx hb hts huX8 hown hE.1 hP 0 rfl rfl 0 (by decide) hk10 (fun _ h9 => h9) rfl dX8_periods_11 ?_
  refine lv_iload_n hx hb dX8_periods_14 rfl (lv_at hl 1 rfl) ?_
  refine lv_iload_n hx hb dX8_periods_15 rfl (lv_at hl 2 rfl) ?_
  obtain ⟨⟨r16, Ba16⟩, hc, hf⟩ := bn_some hf
  try dsimp only at hf
  refine g_call0 (ws' := (w_0_1_2_5_6 q cI cJ cD Tn Ta Ba16)) (st1 := [.int r16]) hq [0, 1, 2, 5, 6] [1, 2, 5, 6] [.inr 0, .inl 0, .inl 1, .inl 2, .inl 3] (va_runV (As := [.ref (q 1), .int p1, .int p2]) (rest := []) ⟨hx, hb, hml, hown, hts⟩ (kX0_countAll l D cI cJ cD q hq N Tn Ta Ba p1 p2 r16 Ba16 hc) (cwV 3 hts gX8_periods_X0_countAll rfl rfl rfl (by decide +kernel) ⟨(Nat.le_of_ble_eq_true rfl), (Nat.le_of_ble_eq_true rfl)⟩) ⟨gP_blind, va_recv hE.1 hP (ci := 0) (q0 := 3) rfl rfl, fun U hU hW => ⟨rfl, by rw [hU]; exact hP.sub (ws' := (w_1_2_5_6 q cI cJ cD Tn Ta Ba)) [1, 2, 3, 4] rfl, gEv.warm hW hE⟩⟩ rfl rfl hl.1 rfl (lv_room (Nat.le_of_ble_eq_true rfl)) dX8_periods_16 ⟨Nat.zero_le _, Nat.zero_le _⟩) hP hS (gSub rfl) rfl rfl rfl rfl rfl (fun H locs hP hS => ?_)
  exact nomatch hf
set_option maxHeartbeats 4000000 in
set_option maxRecDepth 100000 in
theorem kX8_border (l : Launch) (D : va_G) (cI cJ cD : ClassId) (q : Nat → Nat) (hq : gInj q) (N : Nat) (Tn : Int32) (Ta : (Nat → Int32)) (Ba : (Nat → Int32)) (p1 : Int32) (p2 : Int32) (r0 : Int32) (Ba9 : (Nat → Int32)) (hf : fX8_border N Tn Ta Ba p1 p2 = some (.inr (r0, Ba9))) : Met l yX8_border wsX8_border rX8_border (gP D cI cJ cD [.ref (q 0), .int p1, .int p2] (w_0_1_2_5_6 q cI cJ cD Tn Ta Ba)) (gQ D (some (.int r0)) (w_0_1_2_5_6 q cI cJ cD Tn Ta Ba9) (gA q [0, 1, 2, 5, 6])) 0 0 (gA q [0, 1, 2, 5, 6]) := by
  refine Met.ofW (cc := cX8_border) (maxL := 3) (ret := (some .int)) (by decide +kernel) rfl ?_
  intro p e s m args below meth c s₁ B hml hv
  obtain ⟨rfl, hP, hE⟩ := hv
  have hx := B.exec
  have hb := B.bytes
  have hr := B.returns
  have hts := atoms_spec (ws := wsX8_border) B.pre
  have hown : s.vm.findClass RX8 = some m.cls := findClass_of_methodNamed B.named
  have hlocks := B.notSynchronized
  have hS : va_S (gA q [0, 1, 2, 5, 6]) s.heap s.heap [] := va_S.rf
  have hl := lv_entry ([.ref (q 0), .int p1, .int p2]) (n := 3) (Nat.le_of_ble_eq_true rfl)
  rw [lg_entry_eq]
  generalize (lg_sl ([.ref (q 0), .int p1, .int p2]) ++ List.replicate (3 - (lg_sl ([.ref (q 0), .int p1, .int p2])).length) Slot.unset).toArray = ls at hl ⊢
  have hl : lv_has ls 3 [(0, .ref (q 0)), (1, .int p1), (2, .int p2)] := hl
  have hk26 := hts (.fieldLink RX8 26 "LyndonText" "borderRow" "LLyndonText$Borders;") (by decide +kernel)
  have hk10 := hts (.fieldLink RX8 10 "LyndonText" "text" "LLyndonText$Letters;") (by decide +kernel)
  have huX8 : ∀ w ∈ u_ws RX8 TX8 6, w ∈ wsX8_border := by decide +kernel
  unfold fX8_border at hf
  refine lv_aload_n hx hb dX8_border_0 rfl (lv_at hl 0 rfl) ?_
  refine lv_iload_n hx hb dX8_border_1 rfl (lv_at hl 1 rfl) ?_
  refine lv_iload_n hx hb dX8_border_2 rfl (lv_at hl 2 rfl) ?_
  rcases bx_some hf with ⟨e3, hc, hf⟩ | ⟨⟨⟩, hc, hf⟩
  · exact nomatch hf
  try dsimp only at hf
  refine g_call0 (ws' := (w_0_1_2_5_6 q cI cJ cD Tn Ta Ba)) (st1 := []) hq [0, 1, 2, 5, 6] [0, 1] [.inl 0, .inl 1, .inr 2, .inr 3, .inr 4] (va_runV (As := [.int p1, .int p2]) (rest := []) ⟨hx, hb, hml, hown, hts⟩ (kX8_checkPart l D cI cJ cD q hq N Tn p1 p2 hc) (cwV 2 hts gX8_border_X8_checkPart rfl rfl rfl (by decide +kernel) ⟨(Nat.le_of_ble_eq_true rfl), (Nat.le_of_ble_eq_true rfl)⟩) ⟨gP_blind, va_recv hE.1 hP (ci := 6) (q0 := 0) rfl rfl, fun U hU hW => ⟨rfl, by rw [hU]; exact hP.sub (ws' := (w_0_1 q cI cJ cD Tn)) [0, 1] rfl, gEv.warm hW hE⟩⟩ rfl rfl hl.1 rfl (lv_room (Nat.le_of_ble_eq_true rfl)) dX8_border_3 ⟨Nat.zero_le _, Nat.zero_le _⟩) hP hS (gSub rfl) rfl rfl rfl rfl rfl (fun H locs hP hS => ?_)
  refine lv_aload_n hx hb dX8_border_6 rfl (lv_at hl 0 rfl) ?_
  refine va_get (D := D) (ci := 6) (v := .ref (q 5)) (C := RX8) (T := TX8) (N := 6) hx hb hts huX8 hown hE.1 hP 0 rfl rfl 2 (by decide) hk26 (fun _ h9 => h9) rfl dX8_border_7 ?_
  refine lv_aload_n hx hb dX8_border_10 rfl (lv_at hl 0 rfl) ?_
  refine va_get (D := D) (ci := 6) (v := .ref (q 1)) (C := RX8) (T := TX8) (N := 6) hx hb hts huX8 hown hE.1 hP 0 rfl rfl 0 (by decide) hk10 (fun _ h9 => h9) rfl dX8_border_11 ?_
  refine lv_iload_n hx hb dX8_border_14 rfl (lv_at hl 1 rfl) ?_
  refine lv_iload_n hx hb dX8_border_15 rfl (lv_at hl 2 rfl) ?_
  obtain ⟨⟨r16, Ba16⟩, hc, hf⟩ := bn_some hf
  try dsimp only at hf
  refine g_call0 (ws' := (w_0_1_2_5_6 q cI cJ cD Tn Ta Ba16)) (st1 := [.int r16]) hq [0, 1, 2, 5, 6] [1, 2, 5, 6] [.inr 0, .inl 0, .inl 1, .inl 2, .inl 3] (va_runV (As := [.ref (q 1), .int p1, .int p2]) (rest := []) ⟨hx, hb, hml, hown, hts⟩ (kX0_longest l D cI cJ cD q hq N Tn Ta Ba p1 p2 r16 Ba16 hc) (cwV 3 hts gX8_border_X0_longest rfl rfl rfl (by decide +kernel) ⟨(Nat.le_of_ble_eq_true rfl), (Nat.le_of_ble_eq_true rfl)⟩) ⟨gP_blind, va_recv hE.1 hP (ci := 0) (q0 := 3) rfl rfl, fun U hU hW => ⟨rfl, by rw [hU]; exact hP.sub (ws' := (w_1_2_5_6 q cI cJ cD Tn Ta Ba)) [1, 2, 3, 4] rfl, gEv.warm hW hE⟩⟩ rfl rfl hl.1 rfl (lv_room (Nat.le_of_ble_eq_true rfl)) dX8_border_16 ⟨Nat.zero_le _, Nat.zero_le _⟩) hP hS (gSub rfl) rfl rfl rfl rfl rfl (fun H locs hP hS => ?_)
  cases hf
  exact W.iret hx hb hr (fun t ht hW => ⟨⟨rfl, by rw [ht]; exact hP⟩, hS.F ht⟩) hS.2.2 dX8_border_19
set_option maxHeartbeats 4000000 in
set_option maxRecDepth 100000 in
theorem kX8_borderx (l : Launch) (hlt : l.stackTraces = false) (D : va_G) (cI cJ cD : ClassId) (sa : Nat → Nat) (q : Nat → Nat) (hq : gInj q) (N : Nat) (Tn : Int32) (Ta : (Nat → Int32)) (Ba : (Nat → Int32)) (p1 : Int32) (p2 : Int32) (e0 : Nat) (Ba9 : (Nat → Int32)) (hf : fX8_border N Tn Ta Ba p1 p2 = some (.inl (e0, Ba9))) : vx_Met l yX8_border wsX8_border rX8_borderx (gPx D cI cJ cD sa (gA q [0, 1, 2, 5, 6]) [.ref (q 0), .int p1, .int p2] (w_0_1_2_5_6 q cI cJ cD Tn Ta Ba)) (fun _ _ _ _ => False) (gX D (gEn e0) (w_0_1_2_5_6 q cI cJ cD Tn Ta Ba9) (gA q [0, 1, 2, 5, 6])) 1 6 (gA q [0, 1, 2, 5, 6]) := by
  refine vx_ofW (cc := cX8_border) (maxL := 3) (ret := (some .int)) (by decide +kernel) rfl ?_
  intro p e s m args below meth c s₁ B hml htab hv
  obtain ⟨rfl, hP, hE, hXe⟩ := hv
  have hx := B.exec
  have hb := B.bytes
  have hr := B.returns
  have hts := atoms_spec (ws := wsX8_border) B.pre
  have hown : s.vm.findClass RX8 = some m.cls := findClass_of_methodNamed B.named
  have hlocks := B.notSynchronized
  have hS : va_S (gA q [0, 1, 2, 5, 6]) s.heap s.heap [] := va_S.rf
  have hl := lv_entry ([.ref (q 0), .int p1, .int p2]) (n := 3) (Nat.le_of_ble_eq_true rfl)
  rw [lg_entry_eq]
  generalize (lg_sl ([.ref (q 0), .int p1, .int p2]) ++ List.replicate (3 - (lg_sl ([.ref (q 0), .int p1, .int p2])).length) Slot.unset).toArray = ls at hl ⊢
  have hl : lv_has ls 3 [(0, .ref (q 0)), (1, .int p1), (2, .int p2)] := hl
  have hk26 := hts (.fieldLink RX8 26 "LyndonText" "borderRow" "LLyndonText$Borders;") (by decide +kernel)
  have hk10 := hts (.fieldLink RX8 10 "LyndonText" "text" "LLyndonText$Letters;") (by decide +kernel)
  have huX8 : ∀ w ∈ u_ws RX8 TX8 6, w ∈ wsX8_border := by decide +kernel
  unfold fX8_border at hf
  refine lv_aload_n hx hb dX8_border_0 rfl (lv_at hl 0 rfl) ?_
  refine lv_iload_n hx hb dX8_border_1 rfl (lv_at hl 1 rfl) ?_
  refine lv_iload_n hx hb dX8_border_2 rfl (lv_at hl 2 rfl) ?_
  rcases bx_some hf with ⟨e3, hc, hf⟩ | ⟨⟨⟩, hc, hf⟩
  · try dsimp only at hf
    refine g_callX (ws' := (w_0_1_2_5_6 q cI cJ cD Tn Ta Ba)) hq [0, 1, 2, 5, 6] [0, 1] [.inl 0, .inl 1, .inr 2, .inr 3, .inr 4] (vx_runV (As := [.int p1, .int p2]) (rest := []) ⟨hx, hb, hml, hown, hts⟩ (kX8_checkPartx l hlt D cI cJ cD sa q hq N Tn p1 p2 e3 hc) (cwV 2 hts gX8_border_X8_checkPart rfl rfl rfl (by decide +kernel) ⟨(Nat.le_of_ble_eq_true rfl), (Nat.le_of_ble_eq_true rfl)⟩) ⟨gPx_blind, va_recv hE.1 hP (ci := 6) (q0 := 0) rfl rfl, fun U hU hW => ⟨rfl, by rw [hU]; exact hP.sub (ws' := (w_0_1 q cI cJ cD Tn)) [0, 1] rfl, gEv.warm hW hE, gXe.go hW hS (gMono rfl) hXe hU⟩⟩ rfl rfl hl.1 rfl (lv_room (Nat.le_of_ble_eq_true rfl)) dX8_border_3 ⟨(Nat.le_of_ble_eq_true rfl), (Nat.le_of_ble_eq_true rfl)⟩) hP hS (gSub rfl) rfl rfl rfl rfl (fun ce q9 H locs hP hS hce hcv hcl => ?_)
    cases hf
    exact vx_out (fun x9 hx9 => (htab x9 hx9).elim) hlocks hce hcv hcl (fun t ht hv => ⟨rfl, by rw [ht]; exact hP, hS.F ht⟩) hS.2.2 (Nat.le_of_ble_eq_true rfl) (Nat.le_of_ble_eq_true rfl)
  try dsimp only at hf
  refine g_call0 (ws' := (w_0_1_2_5_6 q cI cJ cD Tn Ta Ba)) (st1 := []) hq [0, 1, 2, 5, 6] [0, 1] [.inl 0, .inl 1, .inr 2, .inr 3, .inr 4] (va_runV (As := [.int p1, .int p2]) (rest := []) ⟨hx, hb, hml, hown, hts⟩ (kX8_checkPart l D cI cJ cD q hq N Tn p1 p2 hc) (cwV 2 hts gX8_border_X8_checkPart rfl rfl rfl (by decide +kernel) ⟨(Nat.le_of_ble_eq_true rfl), (Nat.le_of_ble_eq_true rfl)⟩) ⟨gP_blind, va_recv hE.1 hP (ci := 6) (q0 := 0) rfl rfl, fun U hU hW => ⟨rfl, by rw [hU]; exact hP.sub (ws' := (w_0_1 q cI cJ cD Tn)) [0, 1] rfl, gEv.warm hW hE⟩⟩ rfl rfl hl.1 rfl (lv_room (Nat.le_of_ble_eq_true rfl)) dX8_border_3 ⟨Nat.zero_le _, Nat.zero_le _⟩) hP hS (gSub rfl) rfl rfl rfl rfl rfl (fun H locs hP hS => ?_)
  refine lv_aload_n hx hb dX8_border_6 rfl (lv_at hl 0 rfl) ?_
  refine va_get (D := D) (ci := 6) (v := .ref (q 5)) (C := RX8) (T := TX8) (N := 6) hx hb hts huX8 hown hE.1 hP 0 rfl rfl 2 (by decide) hk26 (fun _ h9 => h9) rfl dX8_border_7 ?_
  refine lv_aload_n hx hb dX8_border_10 rfl (lv_at hl 0 rfl) ?_
  refine va_get (D := D) (ci := 6) (v := .ref (q 1)) (C := RX8) (T := TX8) (N := 6) hx hb hts huX8 hown hE.1 hP 0 rfl rfl 0 (by decide) hk10 (fun _ h9 => h9) rfl dX8_border_11 ?_
  refine lv_iload_n hx hb dX8_border_14 rfl (lv_at hl 1 rfl) ?_
  refine lv_iload_n hx hb dX8_border_15 rfl (lv_at hl 2 rfl) ?_
  obtain ⟨⟨r16, Ba16⟩, hc, hf⟩ := bn_some hf
  try dsimp only at hf
  refine g_call0 (ws' := (w_0_1_2_5_6 q cI cJ cD Tn Ta Ba16)) (st1 := [.int r16]) hq [0, 1, 2, 5, 6] [1, 2, 5, 6] [.inr 0, .inl 0, .inl 1, .inl 2, .inl 3] (va_runV (As := [.ref (q 1), .int p1, .int p2]) (rest := []) ⟨hx, hb, hml, hown, hts⟩ (kX0_longest l D cI cJ cD q hq N Tn Ta Ba p1 p2 r16 Ba16 hc) (cwV 3 hts gX8_border_X0_longest rfl rfl rfl (by decide +kernel) ⟨(Nat.le_of_ble_eq_true rfl), (Nat.le_of_ble_eq_true rfl)⟩) ⟨gP_blind, va_recv hE.1 hP (ci := 0) (q0 := 3) rfl rfl, fun U hU hW => ⟨rfl, by rw [hU]; exact hP.sub (ws' := (w_1_2_5_6 q cI cJ cD Tn Ta Ba)) [1, 2, 3, 4] rfl, gEv.warm hW hE⟩⟩ rfl rfl hl.1 rfl (lv_room (Nat.le_of_ble_eq_true rfl)) dX8_border_16 ⟨Nat.zero_le _, Nat.zero_le _⟩) hP hS (gSub rfl) rfl rfl rfl rfl rfl (fun H locs hP hS => ?_)
  exact nomatch hf
set_option maxHeartbeats 4000000 in
set_option maxRecDepth 100000 in
theorem kX8_rootLength (l : Launch) (D : va_G) (cI cJ cD : ClassId) (q : Nat → Nat) (hq : gInj q) (N : Nat) (Tn : Int32) (Ta : (Nat → Int32)) (Ba : (Nat → Int32)) (p1 : Int32) (p2 : Int32) (r0 : Int32) (Ba9 : (Nat → Int32)) (hf : fX8_rootLength N Tn Ta Ba p1 p2 = some (.inr (r0, Ba9))) : Met l yX8_rootLength wsX8_rootLength rX8_rootLength (gP D cI cJ cD [.ref (q 0), .int p1, .int p2] (w_0_1_2_5_6 q cI cJ cD Tn Ta Ba)) (gQ D (some (.int r0)) (w_0_1_2_5_6 q cI cJ cD Tn Ta Ba9) (gA q [0, 1, 2, 5, 6])) 0 0 (gA q [0, 1, 2, 5, 6]) := by
  refine Met.ofW (cc := cX8_rootLength) (maxL := 3) (ret := (some .int)) (by decide +kernel) rfl ?_
  intro p e s m args below meth c s₁ B hml hv
  obtain ⟨rfl, hP, hE⟩ := hv
  have hx := B.exec
  have hb := B.bytes
  have hr := B.returns
  have hts := atoms_spec (ws := wsX8_rootLength) B.pre
  have hown : s.vm.findClass RX8 = some m.cls := findClass_of_methodNamed B.named
  have hlocks := B.notSynchronized
  have hS : va_S (gA q [0, 1, 2, 5, 6]) s.heap s.heap [] := va_S.rf
  have hl := lv_entry ([.ref (q 0), .int p1, .int p2]) (n := 3) (Nat.le_of_ble_eq_true rfl)
  rw [lg_entry_eq]
  generalize (lg_sl ([.ref (q 0), .int p1, .int p2]) ++ List.replicate (3 - (lg_sl ([.ref (q 0), .int p1, .int p2])).length) Slot.unset).toArray = ls at hl ⊢
  have hl : lv_has ls 3 [(0, .ref (q 0)), (1, .int p1), (2, .int p2)] := hl
  have hk26 := hts (.fieldLink RX8 26 "LyndonText" "borderRow" "LLyndonText$Borders;") (by decide +kernel)
  have hk10 := hts (.fieldLink RX8 10 "LyndonText" "text" "LLyndonText$Letters;") (by decide +kernel)
  have huX8 : ∀ w ∈ u_ws RX8 TX8 6, w ∈ wsX8_rootLength := by decide +kernel
  unfold fX8_rootLength at hf
  refine lv_aload_n hx hb dX8_rootLength_0 rfl (lv_at hl 0 rfl) ?_
  refine lv_iload_n hx hb dX8_rootLength_1 rfl (lv_at hl 1 rfl) ?_
  refine lv_iload_n hx hb dX8_rootLength_2 rfl (lv_at hl 2 rfl) ?_
  rcases bx_some hf with ⟨e3, hc, hf⟩ | ⟨⟨⟩, hc, hf⟩
  · exact nomatch hf
  try dsimp only at hf
  refine g_call0 (ws' := (w_0_1_2_5_6 q cI cJ cD Tn Ta Ba)) (st1 := []) hq [0, 1, 2, 5, 6] [0, 1] [.inl 0, .inl 1, .inr 2, .inr 3, .inr 4] (va_runV (As := [.int p1, .int p2]) (rest := []) ⟨hx, hb, hml, hown, hts⟩ (kX8_checkPart l D cI cJ cD q hq N Tn p1 p2 hc) (cwV 2 hts gX8_rootLength_X8_checkPart rfl rfl rfl (by decide +kernel) ⟨(Nat.le_of_ble_eq_true rfl), (Nat.le_of_ble_eq_true rfl)⟩) ⟨gP_blind, va_recv hE.1 hP (ci := 6) (q0 := 0) rfl rfl, fun U hU hW => ⟨rfl, by rw [hU]; exact hP.sub (ws' := (w_0_1 q cI cJ cD Tn)) [0, 1] rfl, gEv.warm hW hE⟩⟩ rfl rfl hl.1 rfl (lv_room (Nat.le_of_ble_eq_true rfl)) dX8_rootLength_3 ⟨Nat.zero_le _, Nat.zero_le _⟩) hP hS (gSub rfl) rfl rfl rfl rfl rfl (fun H locs hP hS => ?_)
  refine lv_aload_n hx hb dX8_rootLength_6 rfl (lv_at hl 0 rfl) ?_
  refine va_get (D := D) (ci := 6) (v := .ref (q 5)) (C := RX8) (T := TX8) (N := 6) hx hb hts huX8 hown hE.1 hP 0 rfl rfl 2 (by decide) hk26 (fun _ h9 => h9) rfl dX8_rootLength_7 ?_
  refine lv_aload_n hx hb dX8_rootLength_10 rfl (lv_at hl 0 rfl) ?_
  refine va_get (D := D) (ci := 6) (v := .ref (q 1)) (C := RX8) (T := TX8) (N := 6) hx hb hts huX8 hown hE.1 hP 0 rfl rfl 0 (by decide) hk10 (fun _ h9 => h9) rfl dX8_rootLength_11 ?_
  refine lv_iload_n hx hb dX8_rootLength_14 rfl (lv_at hl 1 rfl) ?_
  refine lv_iload_n hx hb dX8_rootLength_15 rfl (lv_at hl 2 rfl) ?_
  obtain ⟨⟨r16, Ba16⟩, hc, hf⟩ := bn_some hf
  try dsimp only at hf
  refine g_call0 (ws' := (w_0_1_2_5_6 q cI cJ cD Tn Ta Ba16)) (st1 := [.int r16]) hq [0, 1, 2, 5, 6] [1, 2, 5, 6] [.inr 0, .inl 0, .inl 1, .inl 2, .inl 3] (va_runV (As := [.ref (q 1), .int p1, .int p2]) (rest := []) ⟨hx, hb, hml, hown, hts⟩ (kX0_rootSize l D cI cJ cD q hq N Tn Ta Ba p1 p2 r16 Ba16 hc) (cwV 3 hts gX8_rootLength_X0_rootSize rfl rfl rfl (by decide +kernel) ⟨(Nat.le_of_ble_eq_true rfl), (Nat.le_of_ble_eq_true rfl)⟩) ⟨gP_blind, va_recv hE.1 hP (ci := 0) (q0 := 3) rfl rfl, fun U hU hW => ⟨rfl, by rw [hU]; exact hP.sub (ws' := (w_1_2_5_6 q cI cJ cD Tn Ta Ba)) [1, 2, 3, 4] rfl, gEv.warm hW hE⟩⟩ rfl rfl hl.1 rfl (lv_room (Nat.le_of_ble_eq_true rfl)) dX8_rootLength_16 ⟨Nat.zero_le _, Nat.zero_le _⟩) hP hS (gSub rfl) rfl rfl rfl rfl rfl (fun H locs hP hS => ?_)
  cases hf
  exact W.iret hx hb hr (fun t ht hW => ⟨⟨rfl, by rw [ht]; exact hP⟩, hS.F ht⟩) hS.2.2 dX8_rootLength_19
set_option maxHeartbeats 4000000 in
set_option maxRecDepth 100000 in
theorem kX8_rootLengthx (l : Launch) (hlt : l.stackTraces = false) (D : va_G) (cI cJ cD : ClassId) (sa : Nat → Nat) (q : Nat → Nat) (hq : gInj q) (N : Nat) (Tn : Int32) (Ta : (Nat → Int32)) (Ba : (Nat → Int32)) (p1 : Int32) (p2 : Int32) (e0 : Nat) (Ba9 : (Nat → Int32)) (hf : fX8_rootLength N Tn Ta Ba p1 p2 = some (.inl (e0, Ba9))) : vx_Met l yX8_rootLength wsX8_rootLength rX8_rootLengthx (gPx D cI cJ cD sa (gA q [0, 1, 2, 5, 6]) [.ref (q 0), .int p1, .int p2] (w_0_1_2_5_6 q cI cJ cD Tn Ta Ba)) (fun _ _ _ _ => False) (gX D (gEn e0) (w_0_1_2_5_6 q cI cJ cD Tn Ta Ba9) (gA q [0, 1, 2, 5, 6])) 1 6 (gA q [0, 1, 2, 5, 6]) := by
  refine vx_ofW (cc := cX8_rootLength) (maxL := 3) (ret := (some .int)) (by decide +kernel) rfl ?_
  intro p e s m args below meth c s₁ B hml htab hv
  obtain ⟨rfl, hP, hE, hXe⟩ := hv
  have hx := B.exec
  have hb := B.bytes
  have hr := B.returns
  have hts := atoms_spec (ws := wsX8_rootLength) B.pre
  have hown : s.vm.findClass RX8 = some m.cls := findClass_of_methodNamed B.named
  have hlocks := B.notSynchronized
  have hS : va_S (gA q [0, 1, 2, 5, 6]) s.heap s.heap [] := va_S.rf
  have hl := lv_entry ([.ref (q 0), .int p1, .int p2]) (n := 3) (Nat.le_of_ble_eq_true rfl)
  rw [lg_entry_eq]
  generalize (lg_sl ([.ref (q 0), .int p1, .int p2]) ++ List.replicate (3 - (lg_sl ([.ref (q 0), .int p1, .int p2])).length) Slot.unset).toArray = ls at hl ⊢
  have hl : lv_has ls 3 [(0, .ref (q 0)), (1, .int p1), (2, .int p2)] := hl
  have hk26 := hts (.fieldLink RX8 26 "LyndonText" "borderRow" "LLyndonText$Borders;") (by decide +kernel)
  have hk10 := hts (.fieldLink RX8 10 "LyndonText" "text" "LLyndonText$Letters;") (by decide +kernel)
  have huX8 : ∀ w ∈ u_ws RX8 TX8 6, w ∈ wsX8_rootLength := by decide +kernel
  unfold fX8_rootLength at hf
  refine lv_aload_n hx hb dX8_rootLength_0 rfl (lv_at hl 0 rfl) ?_
  refine lv_iload_n hx hb dX8_rootLength_1 rfl (lv_at hl 1 rfl) ?_
  refine lv_iload_n hx hb dX8_rootLength_2 rfl (lv_at hl 2 rfl) ?_
  rcases bx_some hf with ⟨e3, hc, hf⟩ | ⟨⟨⟩, hc, hf⟩
  · try dsimp only at hf
    refine g_callX (ws' := (w_0_1_2_5_6 q cI cJ cD Tn Ta Ba)) hq [0, 1, 2, 5, 6] [0, 1] [.inl 0, .inl 1, .inr 2, .inr 3, .inr 4] (vx_runV (As := [.int p1, .int p2]) (rest := []) ⟨hx, hb, hml, hown, hts⟩ (kX8_checkPartx l hlt D cI cJ cD sa q hq N Tn p1 p2 e3 hc) (cwV 2 hts gX8_rootLength_X8_checkPart rfl rfl rfl (by decide +kernel) ⟨(Nat.le_of_ble_eq_true rfl), (Nat.le_of_ble_eq_true rfl)⟩) ⟨gPx_blind, va_recv hE.1 hP (ci := 6) (q0 := 0) rfl rfl, fun U hU hW => ⟨rfl, by rw [hU]; exact hP.sub (ws' := (w_0_1 q cI cJ cD Tn)) [0, 1] rfl, gEv.warm hW hE, gXe.go hW hS (gMono rfl) hXe hU⟩⟩ rfl rfl hl.1 rfl (lv_room (Nat.le_of_ble_eq_true rfl)) dX8_rootLength_3 ⟨(Nat.le_of_ble_eq_true rfl), (Nat.le_of_ble_eq_true rfl)⟩) hP hS (gSub rfl) rfl rfl rfl rfl (fun ce q9 H locs hP hS hce hcv hcl => ?_)
    cases hf
    exact vx_out (fun x9 hx9 => (htab x9 hx9).elim) hlocks hce hcv hcl (fun t ht hv => ⟨rfl, by rw [ht]; exact hP, hS.F ht⟩) hS.2.2 (Nat.le_of_ble_eq_true rfl) (Nat.le_of_ble_eq_true rfl)
  try dsimp only at hf
  refine g_call0 (ws' := (w_0_1_2_5_6 q cI cJ cD Tn Ta Ba)) (st1 := []) hq [0, 1, 2, 5, 6] [0, 1] [.inl 0, .inl 1, .inr 2, .inr 3, .inr 4] (va_runV (As := [.int p1, .int p2]) (rest := []) ⟨hx, hb, hml, hown, hts⟩ (kX8_checkPart l D cI cJ cD q hq N Tn p1 p2 hc) (cwV 2 hts gX8_rootLength_X8_checkPart rfl rfl rfl (by decide +kernel) ⟨(Nat.le_of_ble_eq_true rfl), (Nat.le_of_ble_eq_true rfl)⟩) ⟨gP_blind, va_recv hE.1 hP (ci := 6) (q0 := 0) rfl rfl, fun U hU hW => ⟨rfl, by rw [hU]; exact hP.sub (ws' := (w_0_1 q cI cJ cD Tn)) [0, 1] rfl, gEv.warm hW hE⟩⟩ rfl rfl hl.1 rfl (lv_room (Nat.le_of_ble_eq_true rfl)) dX8_rootLength_3 ⟨Nat.zero_le _, Nat.zero_le _⟩) hP hS (gSub rfl) rfl rfl rfl rfl rfl (fun H locs hP hS => ?_)
  refine lv_aload_n hx hb dX8_rootLength_6 rfl (lv_at hl 0 rfl) ?_
  refine va_get (D := D) (ci := 6) (v := .ref (q 5)) (C := RX8) (T := TX8) (N := 6) hx hb hts huX8 hown hE.1 hP 0 rfl rfl 2 (by decide) hk26 (fun _ h9 => h9) rfl dX8_rootLength_7 ?_
  refine lv_aload_n hx hb dX8_rootLength_10 rfl (lv_at hl 0 rfl) ?_
  refine va_get (D := D) (ci := 6) (v := .ref (q 1)) (C := RX8) (T := TX8) (N := 6) hx hb hts huX8 hown hE.1 hP 0 rfl rfl 0 (by decide) hk10 (fun _ h9 => h9) rfl dX8_rootLength_11 ?_
  refine lv_iload_n hx hb dX8_rootLength_14 rfl (lv_at hl 1 rfl) ?_
  refine lv_iload_n hx hb dX8_rootLength_15 rfl (lv_at hl 2 rfl) ?_
  obtain ⟨⟨r16, Ba16⟩, hc, hf⟩ := bn_some hf
  try dsimp only at hf
  refine g_call0 (ws' := (w_0_1_2_5_6 q cI cJ cD Tn Ta Ba16)) (st1 := [.int r16]) hq [0, 1, 2, 5, 6] [1, 2, 5, 6] [.inr 0, .inl 0, .inl 1, .inl 2, .inl 3] (va_runV (As := [.ref (q 1), .int p1, .int p2]) (rest := []) ⟨hx, hb, hml, hown, hts⟩ (kX0_rootSize l D cI cJ cD q hq N Tn Ta Ba p1 p2 r16 Ba16 hc) (cwV 3 hts gX8_rootLength_X0_rootSize rfl rfl rfl (by decide +kernel) ⟨(Nat.le_of_ble_eq_true rfl), (Nat.le_of_ble_eq_true rfl)⟩) ⟨gP_blind, va_recv hE.1 hP (ci := 0) (q0 := 3) rfl rfl, fun U hU hW => ⟨rfl, by rw [hU]; exact hP.sub (ws' := (w_1_2_5_6 q cI cJ cD Tn Ta Ba)) [1, 2, 3, 4] rfl, gEv.warm hW hE⟩⟩ rfl rfl hl.1 rfl (lv_room (Nat.le_of_ble_eq_true rfl)) dX8_rootLength_16 ⟨Nat.zero_le _, Nat.zero_le _⟩) hP hS (gSub rfl) rfl rfl rfl rfl rfl (fun H locs hP hS => ?_)
  exact nomatch hf
set_option maxHeartbeats 4000000 in
set_option maxRecDepth 100000 in
theorem kX8_quotient (l : Launch) (D : va_G) (cI cJ cD : ClassId) (q : Nat → Nat) (hq : gInj q) (N : Nat) (p0 : Int32) (p1 : Int32) (r0 : UInt64) (hf : fX8_quotient N p0 p1 = some r0) : Met l yX8_quotient wsX8_quotient rX8_quotient (gP D cI cJ cD [.int p0, .int p1] (w_0none q cI cJ cD)) (gQ D (some (.double r0)) (w_0none q cI cJ cD) (gA q [])) 0 0 (gA q []) := by
  refine Met.ofW (cc := cX8_quotient) (maxL := 2) (ret := (some .double)) (by decide +kernel) rfl ?_
  intro p e s m args below meth c s₁ B hml hv
  obtain ⟨rfl, hP, hE⟩ := hv
  have hx := B.exec
  have hb := B.bytes
  have hr := B.returns
  have hts := atoms_spec (ws := wsX8_quotient) B.pre
  have hown : s.vm.findClass RX8 = some m.cls := findClass_of_methodNamed B.named
  have hlocks := B.notSynchronized
  have hS : va_S (gA q []) s.heap s.heap [] := va_S.rf
  have hl := lv_entry ([.int p0, .int p1]) (n := 2) (Nat.le_of_ble_eq_true rfl)
  rw [lg_entry_eq]
  generalize (lg_sl ([.int p0, .int p1]) ++ List.replicate (2 - (lg_sl ([.int p0, .int p1])).length) Slot.unset).toArray = ls at hl ⊢
  have hl : lv_has ls 2 [(0, .int p0), (1, .int p1)] := hl
  have J13 : ∀ (y0 : UInt64), fX8_quotient_J13 N y0 = some r0 → ∀ (H : Heap) (locs : List Loc), va_P D vwCl (w_0none q cI cJ cD) H → va_S (gA q []) s.heap H locs → ∀ ls : Array Slot, lv_has ls 2 [] → W p l e (headSpec wsX8_quotient rX8_quotient).room s m ([.int p0, .int p1] : List Value).toArray below meth c H locs 0 0 (MQ below (gQ D (some (.double r0)) (w_0none q cI cJ cD) (gA q [])) ([.int p0, .int p1] : List Value).toArray s 0 0 (gA q [])) (F0 m 13 ls [.double y0]) := by
    intro y0 hf H locs hP hS ls hl
    unfold fX8_quotient_J13 at hf
    cases hf
    exact W.dret hx hb hr (fun t ht hW => ⟨⟨rfl, by rw [ht]; exact hP⟩, hS.F ht⟩) hS.2.2 dX8_quotient_13
  unfold fX8_quotient at hf
  refine lv_iload_n hx hb dX8_quotient_0 rfl (lv_at hl 1 rfl) ?_
  refine lv_if_le (tgt := 12) hx hb dX8_quotient_1 (by decide) (fun c_1 => ?_) (fun c_1 => ?_)
  · have hf := (if_pos c_1).symm.trans hf
    refine lv_dconst0 hx hb dX8_quotient_12 ?_
    exact J13 FP.dconst0 hf _ _ hP hS _ (lv_sub hl [] rfl)
  · have hf := (if_neg c_1).symm.trans hf
    refine lv_iload_n hx hb dX8_quotient_4 rfl (lv_at hl 0 rfl) ?_
    refine lv_i2d hx hb dX8_quotient_5 ?_
    refine lv_iload_n hx hb dX8_quotient_6 rfl (lv_at hl 1 rfl) ?_
    refine lv_i2d hx hb dX8_quotient_7 ?_
    obtain ⟨g_2, hf⟩ := gd_some hf
    refine lv_ddiv hx hb dX8_quotient_8 (nonan_n g_2) ?_
    refine lv_goto (tgt := 13) hx hb dX8_quotient_9 (by decide) ?_
    exact J13 (FP.ddiv (FP.i2d p0) (FP.i2d p1)) hf _ _ hP hS _ (lv_sub hl [] rfl)
set_option maxHeartbeats 4000000 in
set_option maxRecDepth 100000 in
theorem kX8_exponent (l : Launch) (D : va_G) (cI cJ cD : ClassId) (q : Nat → Nat) (hq : gInj q) (N : Nat) (Tn : Int32) (Ta : (Nat → Int32)) (Ba : (Nat → Int32)) (p1 : Int32) (p2 : Int32) (r0 : UInt64) (Ba9 : (Nat → Int32)) (hf : fX8_exponent N Tn Ta Ba p1 p2 = some (.inr (r0, Ba9))) : Met l yX8_exponent wsX8_exponent rX8_exponent (gP D cI cJ cD [.ref (q 0), .int p1, .int p2] (w_0_1_2_5_6 q cI cJ cD Tn Ta Ba)) (gQ D (some (.double r0)) (w_0_1_2_5_6 q cI cJ cD Tn Ta Ba9) (gA q [0, 1, 2, 5, 6])) 0 0 (gA q [0, 1, 2, 5, 6]) := by
  refine Met.ofW (cc := cX8_exponent) (maxL := 3) (ret := (some .double)) (by decide +kernel) rfl ?_
  intro p e s m args below meth c s₁ B hml hv
  obtain ⟨rfl, hP, hE⟩ := hv
  have hx := B.exec
  have hb := B.bytes
  have hr := B.returns
  have hts := atoms_spec (ws := wsX8_exponent) B.pre
  have hown : s.vm.findClass RX8 = some m.cls := findClass_of_methodNamed B.named
  have hlocks := B.notSynchronized
  have hS : va_S (gA q [0, 1, 2, 5, 6]) s.heap s.heap [] := va_S.rf
  have hl := lv_entry ([.ref (q 0), .int p1, .int p2]) (n := 3) (Nat.le_of_ble_eq_true rfl)
  rw [lg_entry_eq]
  generalize (lg_sl ([.ref (q 0), .int p1, .int p2]) ++ List.replicate (3 - (lg_sl ([.ref (q 0), .int p1, .int p2])).length) Slot.unset).toArray = ls at hl ⊢
  have hl : lv_has ls 3 [(0, .ref (q 0)), (1, .int p1), (2, .int p2)] := hl
  have hk26 := hts (.fieldLink RX8 26 "LyndonText" "borderRow" "LLyndonText$Borders;") (by decide +kernel)
  have hk10 := hts (.fieldLink RX8 10 "LyndonText" "text" "LLyndonText$Letters;") (by decide +kernel)
  have huX8 : ∀ w ∈ u_ws RX8 TX8 6, w ∈ wsX8_exponent := by decide +kernel
  unfold fX8_exponent at hf
  refine lv_aload_n hx hb dX8_exponent_0 rfl (lv_at hl 0 rfl) ?_
  refine lv_iload_n hx hb dX8_exponent_1 rfl (lv_at hl 1 rfl) ?_
  refine lv_iload_n hx hb dX8_exponent_2 rfl (lv_at hl 2 rfl) ?_
  rcases bx_some hf with ⟨e3, hc, hf⟩ | ⟨⟨⟩, hc, hf⟩
  · exact nomatch hf
  try dsimp only at hf
  refine g_call0 (ws' := (w_0_1_2_5_6 q cI cJ cD Tn Ta Ba)) (st1 := []) hq [0, 1, 2, 5, 6] [0, 1] [.inl 0, .inl 1, .inr 2, .inr 3, .inr 4] (va_runV (As := [.int p1, .int p2]) (rest := []) ⟨hx, hb, hml, hown, hts⟩ (kX8_checkPart l D cI cJ cD q hq N Tn p1 p2 hc) (cwV 2 hts gX8_exponent_X8_checkPart rfl rfl rfl (by decide +kernel) ⟨(Nat.le_of_ble_eq_true rfl), (Nat.le_of_ble_eq_true rfl)⟩) ⟨gP_blind, va_recv hE.1 hP (ci := 6) (q0 := 0) rfl rfl, fun U hU hW => ⟨rfl, by rw [hU]; exact hP.sub (ws' := (w_0_1 q cI cJ cD Tn)) [0, 1] rfl, gEv.warm hW hE⟩⟩ rfl rfl hl.1 rfl (lv_room (Nat.le_of_ble_eq_true rfl)) dX8_exponent_3 ⟨Nat.zero_le _, Nat.zero_le _⟩) hP hS (gSub rfl) rfl rfl rfl rfl rfl (fun H locs hP hS => ?_)
  refine lv_iload_n hx hb dX8_exponent_6 rfl (lv_at hl 2 rfl) ?_
  refine lv_iload_n hx hb dX8_exponent_7 rfl (lv_at hl 1 rfl) ?_
  refine lv_isub hx hb dX8_exponent_8 ?_
  refine lv_aload_n hx hb dX8_exponent_9 rfl (lv_at hl 0 rfl) ?_
  refine va_get (D := D) (ci := 6) (v := .ref (q 5)) (C := RX8) (T := TX8) (N := 6) hx hb hts huX8 hown hE.1 hP 0 rfl rfl 2 (by decide) hk26 (fun _ h9 => h9) rfl dX8_exponent_10 ?_
  refine lv_aload_n hx hb dX8_exponent_13 rfl (lv_at hl 0 rfl) ?_
  refine va_get (D := D) (ci := 6) (v := .ref (q 1)) (C := RX8) (T := TX8) (N := 6) hx hb hts huX8 hown hE.1 hP 0 rfl rfl 0 (by decide) hk10 (fun _ h9 => h9) rfl dX8_exponent_14 ?_
  refine lv_iload_n hx hb dX8_exponent_17 rfl (lv_at hl 1 rfl) ?_
  refine lv_iload_n hx hb dX8_exponent_18 rfl (lv_at hl 2 rfl) ?_
  obtain ⟨⟨r19, Ba19⟩, hc, hf⟩ := bn_some hf
  try dsimp only at hf
  refine g_call0 (ws' := (w_0_1_2_5_6 q cI cJ cD Tn Ta Ba19)) (st1 := [.int r19, .int (p2 - p1)]) hq [0, 1, 2, 5, 6] [1, 2, 5, 6] [.inr 0, .inl 0, .inl 1, .inl 2, .inl 3] (va_runV (As := [.ref (q 1), .int p1, .int p2]) (rest := [.int (p2 - p1)]) ⟨hx, hb, hml, hown, hts⟩ (kX0_leastPeriod l D cI cJ cD q hq N Tn Ta Ba p1 p2 r19 Ba19 hc) (cwV 3 hts gX8_exponent_X0_leastPeriod rfl rfl rfl (by decide +kernel) ⟨(Nat.le_of_ble_eq_true rfl), (Nat.le_of_ble_eq_true rfl)⟩) ⟨gP_blind, va_recv hE.1 hP (ci := 0) (q0 := 3) rfl rfl, fun U hU hW => ⟨rfl, by rw [hU]; exact hP.sub (ws' := (w_1_2_5_6 q cI cJ cD Tn Ta Ba)) [1, 2, 3, 4] rfl, gEv.warm hW hE⟩⟩ rfl rfl hl.1 rfl (lv_room (Nat.le_of_ble_eq_true rfl)) dX8_exponent_19 ⟨Nat.zero_le _, Nat.zero_le _⟩) hP hS (gSub rfl) rfl rfl rfl rfl rfl (fun H locs hP hS => ?_)
  obtain ⟨r22, hc, hf⟩ := bn_some hf
  try dsimp only at hf
  refine g_call0 (ws' := (w_0_1_2_5_6 q cI cJ cD Tn Ta Ba19)) (st1 := [.double r22]) hq [0, 1, 2, 5, 6] [] [.inr 0, .inr 1, .inr 2, .inr 3, .inr 4] (va_runS (As := [.int (p2 - p1), .int r19]) (rest := []) ⟨hx, hb, hml, hown, hts⟩ (kX8_quotient l D cI cJ cD q hq N (p2 - p1) r19 r22 hc) (va_cwS 2 hts gX8_exponent_X8_quotient rfl rfl rfl (by decide +kernel) ⟨(Nat.le_of_ble_eq_true rfl), (Nat.le_of_ble_eq_true rfl)⟩) ⟨gP_blind, fun U hU hW => ⟨rfl, by rw [hU]; exact hP.sub (ws' := (w_0none q cI cJ cD)) [] rfl, gEv.warm hW hE⟩⟩ rfl rfl hl.1 rfl (lv_room (Nat.le_of_ble_eq_true rfl)) dX8_exponent_22 ⟨Nat.zero_le _, Nat.zero_le _⟩) hP hS (gSub rfl) rfl rfl rfl rfl rfl (fun H locs hP hS => ?_)
  cases hf
  exact W.dret hx hb hr (fun t ht hW => ⟨⟨rfl, by rw [ht]; exact hP⟩, hS.F ht⟩) hS.2.2 dX8_exponent_25
set_option maxHeartbeats 4000000 in
set_option maxRecDepth 100000 in
theorem kX8_exponentx (l : Launch) (hlt : l.stackTraces = false) (D : va_G) (cI cJ cD : ClassId) (sa : Nat → Nat) (q : Nat → Nat) (hq : gInj q) (N : Nat) (Tn : Int32) (Ta : (Nat → Int32)) (Ba : (Nat → Int32)) (p1 : Int32) (p2 : Int32) (e0 : Nat) (Ba9 : (Nat → Int32)) (hf : fX8_exponent N Tn Ta Ba p1 p2 = some (.inl (e0, Ba9))) : vx_Met l yX8_exponent wsX8_exponent rX8_exponentx (gPx D cI cJ cD sa (gA q [0, 1, 2, 5, 6]) [.ref (q 0), .int p1, .int p2] (w_0_1_2_5_6 q cI cJ cD Tn Ta Ba)) (fun _ _ _ _ => False) (gX D (gEn e0) (w_0_1_2_5_6 q cI cJ cD Tn Ta Ba9) (gA q [0, 1, 2, 5, 6])) 1 6 (gA q [0, 1, 2, 5, 6]) := by
  refine vx_ofW (cc := cX8_exponent) (maxL := 3) (ret := (some .double)) (by decide +kernel) rfl ?_
  intro p e s m args below meth c s₁ B hml htab hv
  obtain ⟨rfl, hP, hE, hXe⟩ := hv
  have hx := B.exec
  have hb := B.bytes
  have hr := B.returns
  have hts := atoms_spec (ws := wsX8_exponent) B.pre
  have hown : s.vm.findClass RX8 = some m.cls := findClass_of_methodNamed B.named
  have hlocks := B.notSynchronized
  have hS : va_S (gA q [0, 1, 2, 5, 6]) s.heap s.heap [] := va_S.rf
  have hl := lv_entry ([.ref (q 0), .int p1, .int p2]) (n := 3) (Nat.le_of_ble_eq_true rfl)
  rw [lg_entry_eq]
  generalize (lg_sl ([.ref (q 0), .int p1, .int p2]) ++ List.replicate (3 - (lg_sl ([.ref (q 0), .int p1, .int p2])).length) Slot.unset).toArray = ls at hl ⊢
  have hl : lv_has ls 3 [(0, .ref (q 0)), (1, .int p1), (2, .int p2)] := hl
  have hk26 := hts (.fieldLink RX8 26 "LyndonText" "borderRow" "LLyndonText$Borders;") (by decide +kernel)
  have hk10 := hts (.fieldLink RX8 10 "LyndonText" "text" "LLyndonText$Letters;") (by decide +kernel)
  have huX8 : ∀ w ∈ u_ws RX8 TX8 6, w ∈ wsX8_exponent := by decide +kernel
  unfold fX8_exponent at hf
  refine lv_aload_n hx hb dX8_exponent_0 rfl (lv_at hl 0 rfl) ?_
  refine lv_iload_n hx hb dX8_exponent_1 rfl (lv_at hl 1 rfl) ?_
  refine lv_iload_n hx hb dX8_exponent_2 rfl (lv_at hl 2 rfl) ?_
  rcases bx_some hf with ⟨e3, hc, hf⟩ | ⟨⟨⟩, hc, hf⟩
  · try dsimp only at hf
    refine g_callX (ws' := (w_0_1_2_5_6 q cI cJ cD Tn Ta Ba)) hq [0, 1, 2, 5, 6] [0, 1] [.inl 0, .inl 1, .inr 2, .inr 3, .inr 4] (vx_runV (As := [.int p1, .int p2]) (rest := []) ⟨hx, hb, hml, hown, hts⟩ (kX8_checkPartx l hlt D cI cJ cD sa q hq N Tn p1 p2 e3 hc) (cwV 2 hts gX8_exponent_X8_checkPart rfl rfl rfl (by decide +kernel) ⟨(Nat.le_of_ble_eq_true rfl), (Nat.le_of_ble_eq_true rfl)⟩) ⟨gPx_blind, va_recv hE.1 hP (ci := 6) (q0 := 0) rfl rfl, fun U hU hW => ⟨rfl, by rw [hU]; exact hP.sub (ws' := (w_0_1 q cI cJ cD Tn)) [0, 1] rfl, gEv.warm hW hE, gXe.go hW hS (gMono rfl) hXe hU⟩⟩ rfl rfl hl.1 rfl (lv_room (Nat.le_of_ble_eq_true rfl)) dX8_exponent_3 ⟨(Nat.le_of_ble_eq_true rfl), (Nat.le_of_ble_eq_true rfl)⟩) hP hS (gSub rfl) rfl rfl rfl rfl (fun ce q9 H locs hP hS hce hcv hcl => ?_)
    cases hf
    exact vx_out (fun x9 hx9 => (htab x9 hx9).elim) hlocks hce hcv hcl (fun t ht hv => ⟨rfl, by rw [ht]; exact hP, hS.F ht⟩) hS.2.2 (Nat.le_of_ble_eq_true rfl) (Nat.le_of_ble_eq_true rfl)
  try dsimp only at hf
  refine g_call0 (ws' := (w_0_1_2_5_6 q cI cJ cD Tn Ta Ba)) (st1 := []) hq [0, 1, 2, 5, 6] [0, 1] [.inl 0, .inl 1, .inr 2, .inr 3, .inr 4] (va_runV (As := [.int p1, .int p2]) (rest := []) ⟨hx, hb, hml, hown, hts⟩ (kX8_checkPart l D cI cJ cD q hq N Tn p1 p2 hc) (cwV 2 hts gX8_exponent_X8_checkPart rfl rfl rfl (by decide +kernel) ⟨(Nat.le_of_ble_eq_true rfl), (Nat.le_of_ble_eq_true rfl)⟩) ⟨gP_blind, va_recv hE.1 hP (ci := 6) (q0 := 0) rfl rfl, fun U hU hW => ⟨rfl, by rw [hU]; exact hP.sub (ws' := (w_0_1 q cI cJ cD Tn)) [0, 1] rfl, gEv.warm hW hE⟩⟩ rfl rfl hl.1 rfl (lv_room (Nat.le_of_ble_eq_true rfl)) dX8_exponent_3 ⟨Nat.zero_le _, Nat.zero_le _⟩) hP hS (gSub rfl) rfl rfl rfl rfl rfl (fun H locs hP hS => ?_)
  refine lv_iload_n hx hb dX8_exponent_6 rfl (lv_at hl 2 rfl) ?_
  refine lv_iload_n hx hb dX8_exponent_7 rfl (lv_at hl 1 rfl) ?_
  refine lv_isub hx hb dX8_exponent_8 ?_
  refine lv_aload_n hx hb dX8_exponent_9 rfl (lv_at hl 0 rfl) ?_
  refine va_get (D := D) (ci := 6) (v := .ref (q 5)) (C := RX8) (T := TX8) (N := 6) hx hb hts huX8 hown hE.1 hP 0 rfl rfl 2 (by decide) hk26 (fun _ h9 => h9) rfl dX8_exponent_10 ?_
  refine lv_aload_n hx hb dX8_exponent_13 rfl (lv_at hl 0 rfl) ?_
  refine va_get (D := D) (ci := 6) (v := .ref (q 1)) (C := RX8) (T := TX8) (N := 6) hx hb hts huX8 hown hE.1 hP 0 rfl rfl 0 (by decide) hk10 (fun _ h9 => h9) rfl dX8_exponent_14 ?_
  refine lv_iload_n hx hb dX8_exponent_17 rfl (lv_at hl 1 rfl) ?_
  refine lv_iload_n hx hb dX8_exponent_18 rfl (lv_at hl 2 rfl) ?_
  obtain ⟨⟨r19, Ba19⟩, hc, hf⟩ := bn_some hf
  try dsimp only at hf
  refine g_call0 (ws' := (w_0_1_2_5_6 q cI cJ cD Tn Ta Ba19)) (st1 := [.int r19, .int (p2 - p1)]) hq [0, 1, 2, 5, 6] [1, 2, 5, 6] [.inr 0, .inl 0, .inl 1, .inl 2, .inl 3] (va_runV (As := [.ref (q 1), .int p1, .int p2]) (rest := [.int (p2 - p1)]) ⟨hx, hb, hml, hown, hts⟩ (kX0_leastPeriod l D cI cJ cD q hq N Tn Ta Ba p1 p2 r19 Ba19 hc) (cwV 3 hts gX8_exponent_X0_leastPeriod rfl rfl rfl (by decide +kernel) ⟨(Nat.le_of_ble_eq_true rfl), (Nat.le_of_ble_eq_true rfl)⟩) ⟨gP_blind, va_recv hE.1 hP (ci := 0) (q0 := 3) rfl rfl, fun U hU hW => ⟨rfl, by rw [hU]; exact hP.sub (ws' := (w_1_2_5_6 q cI cJ cD Tn Ta Ba)) [1, 2, 3, 4] rfl, gEv.warm hW hE⟩⟩ rfl rfl hl.1 rfl (lv_room (Nat.le_of_ble_eq_true rfl)) dX8_exponent_19 ⟨Nat.zero_le _, Nat.zero_le _⟩) hP hS (gSub rfl) rfl rfl rfl rfl rfl (fun H locs hP hS => ?_)
  obtain ⟨r22, hc, hf⟩ := bn_some hf
  try dsimp only at hf
  refine g_call0 (ws' := (w_0_1_2_5_6 q cI cJ cD Tn Ta Ba19)) (st1 := [.double r22]) hq [0, 1, 2, 5, 6] [] [.inr 0, .inr 1, .inr 2, .inr 3, .inr 4] (va_runS (As := [.int (p2 - p1), .int r19]) (rest := []) ⟨hx, hb, hml, hown, hts⟩ (kX8_quotient l D cI cJ cD q hq N (p2 - p1) r19 r22 hc) (va_cwS 2 hts gX8_exponent_X8_quotient rfl rfl rfl (by decide +kernel) ⟨(Nat.le_of_ble_eq_true rfl), (Nat.le_of_ble_eq_true rfl)⟩) ⟨gP_blind, fun U hU hW => ⟨rfl, by rw [hU]; exact hP.sub (ws' := (w_0none q cI cJ cD)) [] rfl, gEv.warm hW hE⟩⟩ rfl rfl hl.1 rfl (lv_room (Nat.le_of_ble_eq_true rfl)) dX8_exponent_22 ⟨Nat.zero_le _, Nat.zero_le _⟩) hP hS (gSub rfl) rfl rfl rfl rfl rfl (fun H locs hP hS => ?_)
  exact nomatch hf
set_option maxHeartbeats 4000000 in
set_option maxRecDepth 100000 in
theorem kX8_runs (l : Launch) (D : va_G) (cI cJ cD : ClassId) (q : Nat → Nat) (hq : gInj q) (N : Nat) (Tn : Int32) (Ta : (Nat → Int32)) (Rn : Int32) (Ra : (Nat → Int32)) (Rb : (Nat → Int32)) (Rd : (Nat → Int32)) (r0 : Int32) (Rn9 : Int32) (Ra9 : (Nat → Int32)) (Rb9 : (Nat → Int32)) (Rd9 : (Nat → Int32)) (hf : fX8_runs N Tn Ta Rn Ra Rb Rd = some (r0, Rn9, Ra9, Rb9, Rd9)) : Met l yX8_runs wsX8_runs rX8_runs (gP D cI cJ cD [.ref (q 0)] (w_0_1_2_7_8_9_10 q cI cJ cD Tn Ta Rn Ra Rb Rd)) (gQ D (some (.int r0)) (w_0_1_2_7_8_9_10 q cI cJ cD Tn Ta Rn9 Ra9 Rb9 Rd9) (gA q [0, 1, 2, 7, 8, 9, 10])) 0 0 (gA q [0, 1, 2, 7, 8, 9, 10]) := by
  refine Met.ofW (cc := cX8_runs) (maxL := 1) (ret := (some .int)) (by decide +kernel) rfl ?_
  intro p e s m args below meth c s₁ B hml hv
  obtain ⟨rfl, hP, hE⟩ := hv
  have hx := B.exec
  have hb := B.bytes
  have hr := B.returns
  have hts := atoms_spec (ws := wsX8_runs) B.pre
  have hown : s.vm.findClass RX8 = some m.cls := findClass_of_methodNamed B.named
  have hlocks := B.notSynchronized
  have hS : va_S (gA q [0, 1, 2, 7, 8, 9, 10]) s.heap s.heap [] := va_S.rf
  have hl := lv_entry ([.ref (q 0)]) (n := 1) (Nat.le_of_ble_eq_true rfl)
  rw [lg_entry_eq]
  generalize (lg_sl ([.ref (q 0)]) ++ List.replicate (1 - (lg_sl ([.ref (q 0)])).length) Slot.unset).toArray = ls at hl ⊢
  have hl : lv_has ls 1 [(0, .ref (q 0))] := hl
  have hk33 := hts (.fieldLink RX8 33 "LyndonText" "runRow" "LLyndonText$Runs;") (by decide +kernel)
  have hk10 := hts (.fieldLink RX8 10 "LyndonText" "text" "LLyndonText$Letters;") (by decide +kernel)
  have huX8 : ∀ w ∈ u_ws RX8 TX8 6, w ∈ wsX8_runs := by decide +kernel
  unfold fX8_runs at hf
  refine lv_aload_n hx hb dX8_runs_0 rfl (lv_at hl 0 rfl) ?_
  refine va_get (D := D) (ci := 6) (v := .ref (q 7)) (C := RX8) (T := TX8) (N := 6) hx hb hts huX8 hown hE.1 hP 0 rfl rfl 3 (by decide) hk33 (fun _ h9 => h9) rfl dX8_runs_1 ?_
  refine lv_aload_n hx hb dX8_runs_4 rfl (lv_at hl 0 rfl) ?_
  refine va_get (D := D) (ci := 6) (v := .ref (q 1)) (C := RX8) (T := TX8) (N := 6) hx hb hts huX8 hown hE.1 hP 0 rfl rfl 0 (by decide) hk10 (fun _ h9 => h9) rfl dX8_runs_5 ?_
  obtain ⟨⟨Rn8, Ra8, Rb8, Rd8⟩, hc, hf⟩ := bn_some hf
  try dsimp only at hf
  refine g_call0 (ws' := (w_0_1_2_7_8_9_10 q cI cJ cD Tn Ta Rn8 Ra8 Rb8 Rd8)) (st1 := []) hq [0, 1, 2, 7, 8, 9, 10] [1, 2, 7, 8, 9, 10] [.inr 0, .inl 0, .inl 1, .inl 2, .inl 3, .inl 4, .inl 5] (va_runV (As := [.ref (q 1)]) (rest := []) ⟨hx, hb, hml, hown, hts⟩ (kX6_find l D cI cJ cD q hq N Tn Ta Rn Ra Rb Rd Rn8 Ra8 Rb8 Rd8 hc) (cwV 1 hts gX8_runs_X6_find rfl rfl rfl (by decide +kernel) ⟨(Nat.le_of_ble_eq_true rfl), (Nat.le_of_ble_eq_true rfl)⟩) ⟨gP_blind, va_recv hE.1 hP (ci := 4) (q0 := 3) rfl rfl, fun U hU hW => ⟨rfl, by rw [hU]; exact hP.sub (ws' := (w_1_2_7_8_9_10 q cI cJ cD Tn Ta Rn Ra Rb Rd)) [1, 2, 3, 4, 5, 6] rfl, gEv.warm hW hE⟩⟩ rfl rfl hl.1 rfl (lv_room (Nat.le_of_ble_eq_true rfl)) dX8_runs_8 ⟨Nat.zero_le _, Nat.zero_le _⟩) hP hS (gSub rfl) rfl rfl rfl rfl rfl (fun H locs hP hS => ?_)
  refine lv_aload_n hx hb dX8_runs_11 rfl (lv_at hl 0 rfl) ?_
  refine va_get (D := D) (ci := 6) (v := .ref (q 7)) (C := RX8) (T := TX8) (N := 6) hx hb hts huX8 hown hE.1 hP 0 rfl rfl 3 (by decide) hk33 (fun _ h9 => h9) rfl dX8_runs_12 ?_
  obtain ⟨r15, hc, hf⟩ := bn_some hf
  try dsimp only at hf
  refine g_call0 (ws' := (w_0_1_2_7_8_9_10 q cI cJ cD Tn Ta Rn8 Ra8 Rb8 Rd8)) (st1 := [.int r15]) hq [0, 1, 2, 7, 8, 9, 10] [7] [.inr 0, .inr 1, .inr 2, .inl 0, .inr 4, .inr 5, .inr 6] (va_runV (As := []) (rest := []) ⟨hx, hb, hml, hown, hts⟩ (kX6_count l D cI cJ cD q hq N Rn8 r15 hc) (cwV 0 hts gX8_runs_X6_count rfl rfl rfl (by decide +kernel) ⟨(Nat.le_of_ble_eq_true rfl), (Nat.le_of_ble_eq_true rfl)⟩) ⟨gP_blind, va_recv hE.1 hP (ci := 4) (q0 := 3) rfl rfl, fun U hU hW => ⟨rfl, by rw [hU]; exact hP.sub (ws' := (w_7 q cI cJ cD Rn8)) [3] rfl, gEv.warm hW hE⟩⟩ rfl rfl hl.1 rfl (lv_room (Nat.le_of_ble_eq_true rfl)) dX8_runs_15 ⟨Nat.zero_le _, Nat.zero_le _⟩) hP hS (gSub rfl) rfl rfl rfl rfl rfl (fun H locs hP hS => ?_)
  cases hf
  exact W.iret hx hb hr (fun t ht hW => ⟨⟨rfl, by rw [ht]; exact hP⟩, hS.F ht⟩) hS.2.2 dX8_runs_18
set_option maxHeartbeats 4000000 in
set_option maxRecDepth 100000 in
theorem kX8_findRun (l : Launch) (D : va_G) (cI cJ cD : ClassId) (q : Nat → Nat) (hq : gInj q) (N : Nat) (Tn : Int32) (Ta : (Nat → Int32)) (Rn : Int32) (Ra : (Nat → Int32)) (Rb : (Nat → Int32)) (Rd : (Nat → Int32)) (p1 : Int32) (Rn9 : Int32) (Ra9 : (Nat → Int32)) (Rb9 : (Nat → Int32)) (Rd9 : (Nat → Int32)) (hf : fX8_findRun N Tn Ta Rn Ra Rb Rd p1 = some (.inr (Rn9, Ra9, Rb9, Rd9))) : Met l yX8_findRun wsX8_findRun rX8_findRun (gP D cI cJ cD [.ref (q 0), .int p1] (w_0_1_2_7_8_9_10 q cI cJ cD Tn Ta Rn Ra Rb Rd)) (gQ D none (w_0_1_2_7_8_9_10 q cI cJ cD Tn Ta Rn9 Ra9 Rb9 Rd9) (gA q [0, 1, 2, 7, 8, 9, 10])) 0 0 (gA q [0, 1, 2, 7, 8, 9, 10]) := by
  refine Met.ofW (cc := cX8_findRun) (maxL := 2) (ret := none) (by decide +kernel) rfl ?_
  intro p e s m args below meth c s₁ B hml hv
  obtain ⟨rfl, hP, hE⟩ := hv
  have hx := B.exec
  have hb := B.bytes
  have hr := B.returns
  have hts := atoms_spec (ws := wsX8_findRun) B.pre
  have hown : s.vm.findClass RX8 = some m.cls := findClass_of_methodNamed B.named
  have hlocks := B.notSynchronized
  have hS : va_S (gA q [0, 1, 2, 7, 8, 9, 10]) s.heap s.heap [] := va_S.rf
  have hl := lv_entry ([.ref (q 0), .int p1]) (n := 2) (Nat.le_of_ble_eq_true rfl)
  rw [lg_entry_eq]
  generalize (lg_sl ([.ref (q 0), .int p1]) ++ List.replicate (2 - (lg_sl ([.ref (q 0), .int p1])).length) Slot.unset).toArray = ls at hl ⊢
  have hl : lv_has ls 2 [(0, .ref (q 0)), (1, .int p1)] := hl
  have hk33 := hts (.fieldLink RX8 33 "LyndonText" "runRow" "LLyndonText$Runs;") (by decide +kernel)
  have hk10 := hts (.fieldLink RX8 10 "LyndonText" "text" "LLyndonText$Letters;") (by decide +kernel)
  have huX8 : ∀ w ∈ u_ws RX8 TX8 6, w ∈ wsX8_findRun := by decide +kernel
  unfold fX8_findRun at hf
  refine lv_aload_n hx hb dX8_findRun_0 rfl (lv_at hl 0 rfl) ?_
  refine va_get (D := D) (ci := 6) (v := .ref (q 7)) (C := RX8) (T := TX8) (N := 6) hx hb hts huX8 hown hE.1 hP 0 rfl rfl 3 (by decide) hk33 (fun _ h9 => h9) rfl dX8_findRun_1 ?_
  refine lv_aload_n hx hb dX8_findRun_4 rfl (lv_at hl 0 rfl) ?_
  refine va_get (D := D) (ci := 6) (v := .ref (q 1)) (C := RX8) (T := TX8) (N := 6) hx hb hts huX8 hown hE.1 hP 0 rfl rfl 0 (by decide) hk10 (fun _ h9 => h9) rfl dX8_findRun_5 ?_
  obtain ⟨⟨Rn8, Ra8, Rb8, Rd8⟩, hc, hf⟩ := bn_some hf
  try dsimp only at hf
  refine g_call0 (ws' := (w_0_1_2_7_8_9_10 q cI cJ cD Tn Ta Rn8 Ra8 Rb8 Rd8)) (st1 := []) hq [0, 1, 2, 7, 8, 9, 10] [1, 2, 7, 8, 9, 10] [.inr 0, .inl 0, .inl 1, .inl 2, .inl 3, .inl 4, .inl 5] (va_runV (As := [.ref (q 1)]) (rest := []) ⟨hx, hb, hml, hown, hts⟩ (kX6_find l D cI cJ cD q hq N Tn Ta Rn Ra Rb Rd Rn8 Ra8 Rb8 Rd8 hc) (cwV 1 hts gX8_findRun_X6_find rfl rfl rfl (by decide +kernel) ⟨(Nat.le_of_ble_eq_true rfl), (Nat.le_of_ble_eq_true rfl)⟩) ⟨gP_blind, va_recv hE.1 hP (ci := 4) (q0 := 3) rfl rfl, fun U hU hW => ⟨rfl, by rw [hU]; exact hP.sub (ws' := (w_1_2_7_8_9_10 q cI cJ cD Tn Ta Rn Ra Rb Rd)) [1, 2, 3, 4, 5, 6] rfl, gEv.warm hW hE⟩⟩ rfl rfl hl.1 rfl (lv_room (Nat.le_of_ble_eq_true rfl)) dX8_findRun_8 ⟨Nat.zero_le _, Nat.zero_le _⟩) hP hS (gSub rfl) rfl rfl rfl rfl rfl (fun H locs hP hS => ?_)
  refine lv_iload_n hx hb dX8_findRun_11 rfl (lv_at hl 1 rfl) ?_
  refine lv_aload_n hx hb dX8_findRun_12 rfl (lv_at hl 0 rfl) ?_
  refine va_get (D := D) (ci := 6) (v := .ref (q 7)) (C := RX8) (T := TX8) (N := 6) hx hb hts huX8 hown hE.1 hP 0 rfl rfl 3 (by decide) hk33 (fun _ h9 => h9) rfl dX8_findRun_13 ?_
  obtain ⟨r16, hc, hf⟩ := bn_some hf
  try dsimp only at hf
  refine g_call0 (ws' := (w_0_1_2_7_8_9_10 q cI cJ cD Tn Ta Rn8 Ra8 Rb8 Rd8)) (st1 := [.int r16, .int p1]) hq [0, 1, 2, 7, 8, 9, 10] [7] [.inr 0, .inr 1, .inr 2, .inl 0, .inr 4, .inr 5, .inr 6] (va_runV (As := []) (rest := [.int p1]) ⟨hx, hb, hml, hown, hts⟩ (kX6_count l D cI cJ cD q hq N Rn8 r16 hc) (cwV 0 hts gX8_findRun_X6_count rfl rfl rfl (by decide +kernel) ⟨(Nat.le_of_ble_eq_true rfl), (Nat.le_of_ble_eq_true rfl)⟩) ⟨gP_blind, va_recv hE.1 hP (ci := 4) (q0 := 3) rfl rfl, fun U hU hW => ⟨rfl, by rw [hU]; exact hP.sub (ws' := (w_7 q cI cJ cD Rn8)) [3] rfl, gEv.warm hW hE⟩⟩ rfl rfl hl.1 rfl (lv_room (Nat.le_of_ble_eq_true rfl)) dX8_findRun_16 ⟨Nat.zero_le _, Nat.zero_le _⟩) hP hS (gSub rfl) rfl rfl rfl rfl rfl (fun H locs hP hS => ?_)
  rcases bx_some hf with ⟨e19, hc, hf⟩ | ⟨⟨⟩, hc, hf⟩
  · exact nomatch hf
  try dsimp only at hf
  refine g_call0 (ws' := (w_0_1_2_7_8_9_10 q cI cJ cD Tn Ta Rn8 Ra8 Rb8 Rd8)) (st1 := []) hq [0, 1, 2, 7, 8, 9, 10] [] [.inr 0, .inr 1, .inr 2, .inr 3, .inr 4, .inr 5, .inr 6] (va_runS (As := [.int p1, .int r16]) (rest := []) ⟨hx, hb, hml, hown, hts⟩ (kX8_checkIndex l D cI cJ cD q hq N p1 r16 hc) (va_cwS 2 hts gX8_findRun_X8_checkIndex rfl rfl rfl (by decide +kernel) ⟨(Nat.le_of_ble_eq_true rfl), (Nat.le_of_ble_eq_true rfl)⟩) ⟨gP_blind, fun U hU hW => ⟨rfl, by rw [hU]; exact hP.sub (ws' := (w_0none q cI cJ cD)) [] rfl, gEv.warm hW hE⟩⟩ rfl rfl hl.1 rfl (lv_room (Nat.le_of_ble_eq_true rfl)) dX8_findRun_19 ⟨Nat.zero_le _, Nat.zero_le _⟩) hP hS (gSub rfl) rfl rfl rfl rfl rfl (fun H locs hP hS => ?_)
  cases hf
  exact W.vret hx hb hr (fun t ht hW => ⟨⟨rfl, by rw [ht]; exact hP⟩, hS.F ht⟩) hS.2.2 dX8_findRun_22
set_option maxHeartbeats 4000000 in
set_option maxRecDepth 100000 in
theorem kX8_findRunx (l : Launch) (hlt : l.stackTraces = false) (D : va_G) (cI cJ cD : ClassId) (sa : Nat → Nat) (q : Nat → Nat) (hq : gInj q) (N : Nat) (Tn : Int32) (Ta : (Nat → Int32)) (Rn : Int32) (Ra : (Nat → Int32)) (Rb : (Nat → Int32)) (Rd : (Nat → Int32)) (p1 : Int32) (e0 : Nat) (Rn9 : Int32) (Ra9 : (Nat → Int32)) (Rb9 : (Nat → Int32)) (Rd9 : (Nat → Int32)) (hf : fX8_findRun N Tn Ta Rn Ra Rb Rd p1 = some (.inl (e0, Rn9, Ra9, Rb9, Rd9))) : vx_Met l yX8_findRun wsX8_findRun rX8_findRunx (gPx D cI cJ cD sa (gA q [0, 1, 2, 7, 8, 9, 10]) [.ref (q 0), .int p1] (w_0_1_2_7_8_9_10 q cI cJ cD Tn Ta Rn Ra Rb Rd)) (fun _ _ _ _ => False) (gX D (gEn e0) (w_0_1_2_7_8_9_10 q cI cJ cD Tn Ta Rn9 Ra9 Rb9 Rd9) (gA q [0, 1, 2, 7, 8, 9, 10])) 1 6 (gA q [0, 1, 2, 7, 8, 9, 10]) := by
  refine vx_ofW (cc := cX8_findRun) (maxL := 2) (ret := none) (by decide +kernel) rfl ?_
  intro p e s m args below meth c s₁ B hml htab hv
  obtain ⟨rfl, hP, hE, hXe⟩ := hv
  have hx := B.exec
  have hb := B.bytes
  have hr := B.returns
  have hts := atoms_spec (ws := wsX8_findRun) B.pre
  have hown : s.vm.findClass RX8 = some m.cls := findClass_of_methodNamed B.named
  have hlocks := B.notSynchronized
  have hS : va_S (gA q [0, 1, 2, 7, 8, 9, 10]) s.heap s.heap [] := va_S.rf
  have hl := lv_entry ([.ref (q 0), .int p1]) (n := 2) (Nat.le_of_ble_eq_true rfl)
  rw [lg_entry_eq]
  generalize (lg_sl ([.ref (q 0), .int p1]) ++ List.replicate (2 - (lg_sl ([.ref (q 0), .int p1])).length) Slot.unset).toArray = ls at hl ⊢
  have hl : lv_has ls 2 [(0, .ref (q 0)), (1, .int p1)] := hl
  have hk33 := hts (.fieldLink RX8 33 "LyndonText" "runRow" "LLyndonText$Runs;") (by decide +kernel)
  have hk10 := hts (.fieldLink RX8 10 "LyndonText" "text" "LLyndonText$Letters;") (by decide +kernel)
  have huX8 : ∀ w ∈ u_ws RX8 TX8 6, w ∈ wsX8_findRun := by decide +kernel
  unfold fX8_findRun at hf
  refine lv_aload_n hx hb dX8_findRun_0 rfl (lv_at hl 0 rfl) ?_
  refine va_get (D := D) (ci := 6) (v := .ref (q 7)) (C := RX8) (T := TX8) (N := 6) hx hb hts huX8 hown hE.1 hP 0 rfl rfl 3 (by decide) hk33 (fun _ h9 => h9) rfl dX8_findRun_1 ?_
  refine lv_aload_n hx hb dX8_findRun_4 rfl (lv_at hl 0 rfl) ?_
  refine va_get (D := D) (ci := 6) (v := .ref (q 1)) (C := RX8) (T := TX8) (N := 6) hx hb hts huX8 hown hE.1 hP 0 rfl rfl 0 (by decide) hk10 (fun _ h9 => h9) rfl dX8_findRun_5 ?_
  obtain ⟨⟨Rn8, Ra8, Rb8, Rd8⟩, hc, hf⟩ := bn_some hf
  try dsimp only at hf
  refine g_call0 (ws' := (w_0_1_2_7_8_9_10 q cI cJ cD Tn Ta Rn8 Ra8 Rb8 Rd8)) (st1 := []) hq [0, 1, 2, 7, 8, 9, 10] [1, 2, 7, 8, 9, 10] [.inr 0, .inl 0, .inl 1, .inl 2, .inl 3, .inl 4, .inl 5] (va_runV (As := [.ref (q 1)]) (rest := []) ⟨hx, hb, hml, hown, hts⟩ (kX6_find l D cI cJ cD q hq N Tn Ta Rn Ra Rb Rd Rn8 Ra8 Rb8 Rd8 hc) (cwV 1 hts gX8_findRun_X6_find rfl rfl rfl (by decide +kernel) ⟨(Nat.le_of_ble_eq_true rfl), (Nat.le_of_ble_eq_true rfl)⟩) ⟨gP_blind, va_recv hE.1 hP (ci := 4) (q0 := 3) rfl rfl, fun U hU hW => ⟨rfl, by rw [hU]; exact hP.sub (ws' := (w_1_2_7_8_9_10 q cI cJ cD Tn Ta Rn Ra Rb Rd)) [1, 2, 3, 4, 5, 6] rfl, gEv.warm hW hE⟩⟩ rfl rfl hl.1 rfl (lv_room (Nat.le_of_ble_eq_true rfl)) dX8_findRun_8 ⟨Nat.zero_le _, Nat.zero_le _⟩) hP hS (gSub rfl) rfl rfl rfl rfl rfl (fun H locs hP hS => ?_)
  refine lv_iload_n hx hb dX8_findRun_11 rfl (lv_at hl 1 rfl) ?_
  refine lv_aload_n hx hb dX8_findRun_12 rfl (lv_at hl 0 rfl) ?_
  refine va_get (D := D) (ci := 6) (v := .ref (q 7)) (C := RX8) (T := TX8) (N := 6) hx hb hts huX8 hown hE.1 hP 0 rfl rfl 3 (by decide) hk33 (fun _ h9 => h9) rfl dX8_findRun_13 ?_
  obtain ⟨r16, hc, hf⟩ := bn_some hf
  try dsimp only at hf
  refine g_call0 (ws' := (w_0_1_2_7_8_9_10 q cI cJ cD Tn Ta Rn8 Ra8 Rb8 Rd8)) (st1 := [.int r16, .int p1]) hq [0, 1, 2, 7, 8, 9, 10] [7] [.inr 0, .inr 1, .inr 2, .inl 0, .inr 4, .inr 5, .inr 6] (va_runV (As := []) (rest := [.int p1]) ⟨hx, hb, hml, hown, hts⟩ (kX6_count l D cI cJ cD q hq N Rn8 r16 hc) (cwV 0 hts gX8_findRun_X6_count rfl rfl rfl (by decide +kernel) ⟨(Nat.le_of_ble_eq_true rfl), (Nat.le_of_ble_eq_true rfl)⟩) ⟨gP_blind, va_recv hE.1 hP (ci := 4) (q0 := 3) rfl rfl, fun U hU hW => ⟨rfl, by rw [hU]; exact hP.sub (ws' := (w_7 q cI cJ cD Rn8)) [3] rfl, gEv.warm hW hE⟩⟩ rfl rfl hl.1 rfl (lv_room (Nat.le_of_ble_eq_true rfl)) dX8_findRun_16 ⟨Nat.zero_le _, Nat.zero_le _⟩) hP hS (gSub rfl) rfl rfl rfl rfl rfl (fun H locs hP hS => ?_)
  rcases bx_some hf with ⟨e19, hc, hf⟩ | ⟨⟨⟩, hc, hf⟩
  · try dsimp only at hf
    refine g_callX (ws' := (w_0_1_2_7_8_9_10 q cI cJ cD Tn Ta Rn8 Ra8 Rb8 Rd8)) hq [0, 1, 2, 7, 8, 9, 10] [] [.inr 0, .inr 1, .inr 2, .inr 3, .inr 4, .inr 5, .inr 6] (vx_runS (As := [.int p1, .int r16]) (rest := []) ⟨hx, hb, hml, hown, hts⟩ (kX8_checkIndexx l hlt D cI cJ cD sa q hq N p1 r16 e19 hc) (va_cwS 2 hts gX8_findRun_X8_checkIndex rfl rfl rfl (by decide +kernel) ⟨(Nat.le_of_ble_eq_true rfl), (Nat.le_of_ble_eq_true rfl)⟩) ⟨gPx_blind, fun U hU hW => ⟨rfl, by rw [hU]; exact hP.sub (ws' := (w_0none q cI cJ cD)) [] rfl, gEv.warm hW hE, gXe.go hW hS (gMono rfl) hXe hU⟩⟩ rfl rfl hl.1 rfl (lv_room (Nat.le_of_ble_eq_true rfl)) dX8_findRun_19 ⟨(Nat.le_of_ble_eq_true rfl), (Nat.le_of_ble_eq_true rfl)⟩) hP hS (gSub rfl) rfl rfl rfl rfl (fun ce q9 H locs hP hS hce hcv hcl => ?_)
    cases hf
    exact vx_out (fun x9 hx9 => (htab x9 hx9).elim) hlocks hce hcv hcl (fun t ht hv => ⟨rfl, by rw [ht]; exact hP, hS.F ht⟩) hS.2.2 (Nat.le_of_ble_eq_true rfl) (Nat.le_of_ble_eq_true rfl)
  try dsimp only at hf
  refine g_call0 (ws' := (w_0_1_2_7_8_9_10 q cI cJ cD Tn Ta Rn8 Ra8 Rb8 Rd8)) (st1 := []) hq [0, 1, 2, 7, 8, 9, 10] [] [.inr 0, .inr 1, .inr 2, .inr 3, .inr 4, .inr 5, .inr 6] (va_runS (As := [.int p1, .int r16]) (rest := []) ⟨hx, hb, hml, hown, hts⟩ (kX8_checkIndex l D cI cJ cD q hq N p1 r16 hc) (va_cwS 2 hts gX8_findRun_X8_checkIndex rfl rfl rfl (by decide +kernel) ⟨(Nat.le_of_ble_eq_true rfl), (Nat.le_of_ble_eq_true rfl)⟩) ⟨gP_blind, fun U hU hW => ⟨rfl, by rw [hU]; exact hP.sub (ws' := (w_0none q cI cJ cD)) [] rfl, gEv.warm hW hE⟩⟩ rfl rfl hl.1 rfl (lv_room (Nat.le_of_ble_eq_true rfl)) dX8_findRun_19 ⟨Nat.zero_le _, Nat.zero_le _⟩) hP hS (gSub rfl) rfl rfl rfl rfl rfl (fun H locs hP hS => ?_)
  exact nomatch hf
set_option maxHeartbeats 4000000 in
set_option maxRecDepth 100000 in
theorem kX8_runStart (l : Launch) (D : va_G) (cI cJ cD : ClassId) (q : Nat → Nat) (hq : gInj q) (N : Nat) (Tn : Int32) (Ta : (Nat → Int32)) (Rn : Int32) (Ra : (Nat → Int32)) (Rb : (Nat → Int32)) (Rd : (Nat → Int32)) (p1 : Int32) (r0 : Int32) (Rn9 : Int32) (Ra9 : (Nat → Int32)) (Rb9 : (Nat → Int32)) (Rd9 : (Nat → Int32)) (hf : fX8_runStart N Tn Ta Rn Ra Rb Rd p1 = some (.inr (r0, Rn9, Ra9, Rb9, Rd9))) : Met l yX8_runStart wsX8_runStart rX8_runStart (gP D cI cJ cD [.ref (q 0), .int p1] (w_0_1_2_7_8_9_10 q cI cJ cD Tn Ta Rn Ra Rb Rd)) (gQ D (some (.int r0)) (w_0_1_2_7_8_9_10 q cI cJ cD Tn Ta Rn9 Ra9 Rb9 Rd9) (gA q [0, 1, 2, 7, 8, 9, 10])) 0 0 (gA q [0, 1, 2, 7, 8, 9, 10]) := by
  refine Met.ofW (cc := cX8_runStart) (maxL := 2) (ret := (some .int)) (by decide +kernel) rfl ?_
  intro p e s m args below meth c s₁ B hml hv
  obtain ⟨rfl, hP, hE⟩ := hv
  have hx := B.exec
  have hb := B.bytes
  have hr := B.returns
  have hts := atoms_spec (ws := wsX8_runStart) B.pre
  have hown : s.vm.findClass RX8 = some m.cls := findClass_of_methodNamed B.named
  have hlocks := B.notSynchronized
  have hS : va_S (gA q [0, 1, 2, 7, 8, 9, 10]) s.heap s.heap [] := va_S.rf
  have hl := lv_entry ([.ref (q 0), .int p1]) (n := 2) (Nat.le_of_ble_eq_true rfl)
  rw [lg_entry_eq]
  generalize (lg_sl ([.ref (q 0), .int p1]) ++ List.replicate (2 - (lg_sl ([.ref (q 0), .int p1])).length) Slot.unset).toArray = ls at hl ⊢
  have hl : lv_has ls 2 [(0, .ref (q 0)), (1, .int p1)] := hl
  have hk33 := hts (.fieldLink RX8 33 "LyndonText" "runRow" "LLyndonText$Runs;") (by decide +kernel)
  have huX8 : ∀ w ∈ u_ws RX8 TX8 6, w ∈ wsX8_runStart := by decide +kernel
  unfold fX8_runStart at hf
  refine lv_aload_n hx hb dX8_runStart_0 rfl (lv_at hl 0 rfl) ?_
  refine lv_iload_n hx hb dX8_runStart_1 rfl (lv_at hl 1 rfl) ?_
  rcases bx_some hf with ⟨⟨e2, Rn2, Ra2, Rb2, Rd2⟩, hc, hf⟩ | ⟨⟨Rn2, Ra2, Rb2, Rd2⟩, hc, hf⟩
  · exact nomatch hf
  try dsimp only at hf
  refine g_call0 (ws' := (w_0_1_2_7_8_9_10 q cI cJ cD Tn Ta Rn2 Ra2 Rb2 Rd2)) (st1 := []) hq [0, 1, 2, 7, 8, 9, 10] [0, 1, 2, 7, 8, 9, 10] [.inl 0, .inl 1, .inl 2, .inl 3, .inl 4, .inl 5, .inl 6] (va_runV (As := [.int p1]) (rest := []) ⟨hx, hb, hml, hown, hts⟩ (kX8_findRun l D cI cJ cD q hq N Tn Ta Rn Ra Rb Rd p1 Rn2 Ra2 Rb2 Rd2 hc) (cwV 1 hts gX8_runStart_X8_findRun rfl rfl rfl (by decide +kernel) ⟨(Nat.le_of_ble_eq_true rfl), (Nat.le_of_ble_eq_true rfl)⟩) ⟨gP_blind, va_recv hE.1 hP (ci := 6) (q0 := 0) rfl rfl, fun U hU hW => ⟨rfl, by rw [hU]; exact hP.sub (ws' := (w_0_1_2_7_8_9_10 q cI cJ cD Tn Ta Rn Ra Rb Rd)) [0, 1, 2, 3, 4, 5, 6] rfl, gEv.warm hW hE⟩⟩ rfl rfl hl.1 rfl (lv_room (Nat.le_of_ble_eq_true rfl)) dX8_runStart_2 ⟨Nat.zero_le _, Nat.zero_le _⟩) hP hS (gSub rfl) rfl rfl rfl rfl rfl (fun H locs hP hS => ?_)
  refine lv_aload_n hx hb dX8_runStart_5 rfl (lv_at hl 0 rfl) ?_
  refine va_get (D := D) (ci := 6) (v := .ref (q 7)) (C := RX8) (T := TX8) (N := 6) hx hb hts huX8 hown hE.1 hP 0 rfl rfl 3 (by decide) hk33 (fun _ h9 => h9) rfl dX8_runStart_6 ?_
  refine lv_iload_n hx hb dX8_runStart_9 rfl (lv_at hl 1 rfl) ?_
  obtain ⟨r10, hc, hf⟩ := bn_some hf
  try dsimp only at hf
  refine g_call0 (ws' := (w_0_1_2_7_8_9_10 q cI cJ cD Tn Ta Rn2 Ra2 Rb2 Rd2)) (st1 := [.int r10]) hq [0, 1, 2, 7, 8, 9, 10] [7, 8] [.inr 0, .inr 1, .inr 2, .inl 0, .inl 1, .inr 5, .inr 6] (va_runV (As := [.int p1]) (rest := []) ⟨hx, hb, hml, hown, hts⟩ (kX6_start l D cI cJ cD q hq N Rn2 Ra2 p1 r10 hc) (cwV 1 hts gX8_runStart_X6_start rfl rfl rfl (by decide +kernel) ⟨(Nat.le_of_ble_eq_true rfl), (Nat.le_of_ble_eq_true rfl)⟩) ⟨gP_blind, va_recv hE.1 hP (ci := 4) (q0 := 3) rfl rfl, fun U hU hW => ⟨rfl, by rw [hU]; exact hP.sub (ws' := (w_7_8 q cI cJ cD Rn2 Ra2)) [3, 4] rfl, gEv.warm hW hE⟩⟩ rfl rfl hl.1 rfl (lv_room (Nat.le_of_ble_eq_true rfl)) dX8_runStart_10 ⟨Nat.zero_le _, Nat.zero_le _⟩) hP hS (gSub rfl) rfl rfl rfl rfl rfl (fun H locs hP hS => ?_)
  cases hf
  exact W.iret hx hb hr (fun t ht hW => ⟨⟨rfl, by rw [ht]; exact hP⟩, hS.F ht⟩) hS.2.2 dX8_runStart_13
set_option maxHeartbeats 4000000 in
set_option maxRecDepth 100000 in
theorem kX8_runStartx (l : Launch) (hlt : l.stackTraces = false) (D : va_G) (cI cJ cD : ClassId) (sa : Nat → Nat) (q : Nat → Nat) (hq : gInj q) (N : Nat) (Tn : Int32) (Ta : (Nat → Int32)) (Rn : Int32) (Ra : (Nat → Int32)) (Rb : (Nat → Int32)) (Rd : (Nat → Int32)) (p1 : Int32) (e0 : Nat) (Rn9 : Int32) (Ra9 : (Nat → Int32)) (Rb9 : (Nat → Int32)) (Rd9 : (Nat → Int32)) (hf : fX8_runStart N Tn Ta Rn Ra Rb Rd p1 = some (.inl (e0, Rn9, Ra9, Rb9, Rd9))) : vx_Met l yX8_runStart wsX8_runStart rX8_runStartx (gPx D cI cJ cD sa (gA q [0, 1, 2, 7, 8, 9, 10]) [.ref (q 0), .int p1] (w_0_1_2_7_8_9_10 q cI cJ cD Tn Ta Rn Ra Rb Rd)) (fun _ _ _ _ => False) (gX D (gEn e0) (w_0_1_2_7_8_9_10 q cI cJ cD Tn Ta Rn9 Ra9 Rb9 Rd9) (gA q [0, 1, 2, 7, 8, 9, 10])) 1 6 (gA q [0, 1, 2, 7, 8, 9, 10]) := by
  refine vx_ofW (cc := cX8_runStart) (maxL := 2) (ret := (some .int)) (by decide +kernel) rfl ?_
  intro p e s m args below meth c s₁ B hml htab hv
  obtain ⟨rfl, hP, hE, hXe⟩ := hv
  have hx := B.exec
  have hb := B.bytes
  have hr := B.returns
  have hts := atoms_spec (ws := wsX8_runStart) B.pre
  have hown : s.vm.findClass RX8 = some m.cls := findClass_of_methodNamed B.named
  have hlocks := B.notSynchronized
  have hS : va_S (gA q [0, 1, 2, 7, 8, 9, 10]) s.heap s.heap [] := va_S.rf
  have hl := lv_entry ([.ref (q 0), .int p1]) (n := 2) (Nat.le_of_ble_eq_true rfl)
  rw [lg_entry_eq]
  generalize (lg_sl ([.ref (q 0), .int p1]) ++ List.replicate (2 - (lg_sl ([.ref (q 0), .int p1])).length) Slot.unset).toArray = ls at hl ⊢
  have hl : lv_has ls 2 [(0, .ref (q 0)), (1, .int p1)] := hl
  have hk33 := hts (.fieldLink RX8 33 "LyndonText" "runRow" "LLyndonText$Runs;") (by decide +kernel)
  have huX8 : ∀ w ∈ u_ws RX8 TX8 6, w ∈ wsX8_runStart := by decide +kernel
  unfold fX8_runStart at hf
  refine lv_aload_n hx hb dX8_runStart_0 rfl (lv_at hl 0 rfl) ?_
  refine lv_iload_n hx hb dX8_runStart_1 rfl (lv_at hl 1 rfl) ?_
  rcases bx_some hf with ⟨⟨e2, Rn2, Ra2, Rb2, Rd2⟩, hc, hf⟩ | ⟨⟨Rn2, Ra2, Rb2, Rd2⟩, hc, hf⟩
  · try dsimp only at hf
    refine g_callX (ws' := (w_0_1_2_7_8_9_10 q cI cJ cD Tn Ta Rn2 Ra2 Rb2 Rd2)) hq [0, 1, 2, 7, 8, 9, 10] [0, 1, 2, 7, 8, 9, 10] [.inl 0, .inl 1, .inl 2, .inl 3, .inl 4, .inl 5, .inl 6] (vx_runV (As := [.int p1]) (rest := []) ⟨hx, hb, hml, hown, hts⟩ (kX8_findRunx l hlt D cI cJ cD sa q hq N Tn Ta Rn Ra Rb Rd p1 e2 Rn2 Ra2 Rb2 Rd2 hc) (cwV 1 hts gX8_runStart_X8_findRun rfl rfl rfl (by decide +kernel) ⟨(Nat.le_of_ble_eq_true rfl), (Nat.le_of_ble_eq_true rfl)⟩) ⟨gPx_blind, va_recv hE.1 hP (ci := 6) (q0 := 0) rfl rfl, fun U hU hW => ⟨rfl, by rw [hU]; exact hP.sub (ws' := (w_0_1_2_7_8_9_10 q cI cJ cD Tn Ta Rn Ra Rb Rd)) [0, 1, 2, 3, 4, 5, 6] rfl, gEv.warm hW hE, gXe.go hW hS (gMono rfl) hXe hU⟩⟩ rfl rfl hl.1 rfl (lv_room (Nat.le_of_ble_eq_true rfl)) dX8_runStart_2 ⟨(Nat.le_of_ble_eq_true rfl), (Nat.le_of_ble_eq_true rfl)⟩) hP hS (gSub rfl) rfl rfl rfl rfl (fun ce q9 H locs hP hS hce hcv hcl => ?_)
    cases hf
    exact vx_out (fun x9 hx9 => (htab x9 hx9).elim) hlocks hce hcv hcl (fun t ht hv => ⟨rfl, by rw [ht]; exact hP, hS.F ht⟩) hS.2.2 (Nat.le_of_ble_eq_true rfl) (Nat.le_of_ble_eq_true rfl)
  try dsimp only at hf
  refine g_call0 (ws' := (w_0_1_2_7_8_9_10 q cI cJ cD Tn Ta Rn2 Ra2 Rb2 Rd2)) (st1 := []) hq [0, 1, 2, 7, 8, 9, 10] [0, 1, 2, 7, 8, 9, 10] [.inl 0, .inl 1, .inl 2, .inl 3, .inl 4, .inl 5, .inl 6] (va_runV (As := [.int p1]) (rest := []) ⟨hx, hb, hml, hown, hts⟩ (kX8_findRun l D cI cJ cD q hq N Tn Ta Rn Ra Rb Rd p1 Rn2 Ra2 Rb2 Rd2 hc) (cwV 1 hts gX8_runStart_X8_findRun rfl rfl rfl (by decide +kernel) ⟨(Nat.le_of_ble_eq_true rfl), (Nat.le_of_ble_eq_true rfl)⟩) ⟨gP_blind, va_recv hE.1 hP (ci := 6) (q0 := 0) rfl rfl, fun U hU hW => ⟨rfl, by rw [hU]; exact hP.sub (ws' := (w_0_1_2_7_8_9_10 q cI cJ cD Tn Ta Rn Ra Rb Rd)) [0, 1, 2, 3, 4, 5, 6] rfl, gEv.warm hW hE⟩⟩ rfl rfl hl.1 rfl (lv_room (Nat.le_of_ble_eq_true rfl)) dX8_runStart_2 ⟨Nat.zero_le _, Nat.zero_le _⟩) hP hS (gSub rfl) rfl rfl rfl rfl rfl (fun H locs hP hS => ?_)
  refine lv_aload_n hx hb dX8_runStart_5 rfl (lv_at hl 0 rfl) ?_
  refine va_get (D := D) (ci := 6) (v := .ref (q 7)) (C := RX8) (T := TX8) (N := 6) hx hb hts huX8 hown hE.1 hP 0 rfl rfl 3 (by decide) hk33 (fun _ h9 => h9) rfl dX8_runStart_6 ?_
  refine lv_iload_n hx hb dX8_runStart_9 rfl (lv_at hl 1 rfl) ?_
  obtain ⟨r10, hc, hf⟩ := bn_some hf
  try dsimp only at hf
  refine g_call0 (ws' := (w_0_1_2_7_8_9_10 q cI cJ cD Tn Ta Rn2 Ra2 Rb2 Rd2)) (st1 := [.int r10]) hq [0, 1, 2, 7, 8, 9, 10] [7, 8] [.inr 0, .inr 1, .inr 2, .inl 0, .inl 1, .inr 5, .inr 6] (va_runV (As := [.int p1]) (rest := []) ⟨hx, hb, hml, hown, hts⟩ (kX6_start l D cI cJ cD q hq N Rn2 Ra2 p1 r10 hc) (cwV 1 hts gX8_runStart_X6_start rfl rfl rfl (by decide +kernel) ⟨(Nat.le_of_ble_eq_true rfl), (Nat.le_of_ble_eq_true rfl)⟩) ⟨gP_blind, va_recv hE.1 hP (ci := 4) (q0 := 3) rfl rfl, fun U hU hW => ⟨rfl, by rw [hU]; exact hP.sub (ws' := (w_7_8 q cI cJ cD Rn2 Ra2)) [3, 4] rfl, gEv.warm hW hE⟩⟩ rfl rfl hl.1 rfl (lv_room (Nat.le_of_ble_eq_true rfl)) dX8_runStart_10 ⟨Nat.zero_le _, Nat.zero_le _⟩) hP hS (gSub rfl) rfl rfl rfl rfl rfl (fun H locs hP hS => ?_)
  exact nomatch hf
set_option maxHeartbeats 4000000 in
set_option maxRecDepth 100000 in
theorem kX8_runEnd (l : Launch) (D : va_G) (cI cJ cD : ClassId) (q : Nat → Nat) (hq : gInj q) (N : Nat) (Tn : Int32) (Ta : (Nat → Int32)) (Rn : Int32) (Ra : (Nat → Int32)) (Rb : (Nat → Int32)) (Rd : (Nat → Int32)) (p1 : Int32) (r0 : Int32) (Rn9 : Int32) (Ra9 : (Nat → Int32)) (Rb9 : (Nat → Int32)) (Rd9 : (Nat → Int32)) (hf : fX8_runEnd N Tn Ta Rn Ra Rb Rd p1 = some (.inr (r0, Rn9, Ra9, Rb9, Rd9))) : Met l yX8_runEnd wsX8_runEnd rX8_runEnd (gP D cI cJ cD [.ref (q 0), .int p1] (w_0_1_2_7_8_9_10 q cI cJ cD Tn Ta Rn Ra Rb Rd)) (gQ D (some (.int r0)) (w_0_1_2_7_8_9_10 q cI cJ cD Tn Ta Rn9 Ra9 Rb9 Rd9) (gA q [0, 1, 2, 7, 8, 9, 10])) 0 0 (gA q [0, 1, 2, 7, 8, 9, 10]) := by
  refine Met.ofW (cc := cX8_runEnd) (maxL := 2) (ret := (some .int)) (by decide +kernel) rfl ?_
  intro p e s m args below meth c s₁ B hml hv
  obtain ⟨rfl, hP, hE⟩ := hv
  have hx := B.exec
  have hb := B.bytes
  have hr := B.returns
  have hts := atoms_spec (ws := wsX8_runEnd) B.pre
  have hown : s.vm.findClass RX8 = some m.cls := findClass_of_methodNamed B.named
  have hlocks := B.notSynchronized
  have hS : va_S (gA q [0, 1, 2, 7, 8, 9, 10]) s.heap s.heap [] := va_S.rf
  have hl := lv_entry ([.ref (q 0), .int p1]) (n := 2) (Nat.le_of_ble_eq_true rfl)
  rw [lg_entry_eq]
  generalize (lg_sl ([.ref (q 0), .int p1]) ++ List.replicate (2 - (lg_sl ([.ref (q 0), .int p1])).length) Slot.unset).toArray = ls at hl ⊢
  have hl : lv_has ls 2 [(0, .ref (q 0)), (1, .int p1)] := hl
  have hk33 := hts (.fieldLink RX8 33 "LyndonText" "runRow" "LLyndonText$Runs;") (by decide +kernel)
  have huX8 : ∀ w ∈ u_ws RX8 TX8 6, w ∈ wsX8_runEnd := by decide +kernel
  unfold fX8_runEnd at hf
  refine lv_aload_n hx hb dX8_runEnd_0 rfl (lv_at hl 0 rfl) ?_
  refine lv_iload_n hx hb dX8_runEnd_1 rfl (lv_at hl 1 rfl) ?_
  rcases bx_some hf with ⟨⟨e2, Rn2, Ra2, Rb2, Rd2⟩, hc, hf⟩ | ⟨⟨Rn2, Ra2, Rb2, Rd2⟩, hc, hf⟩
  · exact nomatch hf
  try dsimp only at hf
  refine g_call0 (ws' := (w_0_1_2_7_8_9_10 q cI cJ cD Tn Ta Rn2 Ra2 Rb2 Rd2)) (st1 := []) hq [0, 1, 2, 7, 8, 9, 10] [0, 1, 2, 7, 8, 9, 10] [.inl 0, .inl 1, .inl 2, .inl 3, .inl 4, .inl 5, .inl 6] (va_runV (As := [.int p1]) (rest := []) ⟨hx, hb, hml, hown, hts⟩ (kX8_findRun l D cI cJ cD q hq N Tn Ta Rn Ra Rb Rd p1 Rn2 Ra2 Rb2 Rd2 hc) (cwV 1 hts gX8_runEnd_X8_findRun rfl rfl rfl (by decide +kernel) ⟨(Nat.le_of_ble_eq_true rfl), (Nat.le_of_ble_eq_true rfl)⟩) ⟨gP_blind, va_recv hE.1 hP (ci := 6) (q0 := 0) rfl rfl, fun U hU hW => ⟨rfl, by rw [hU]; exact hP.sub (ws' := (w_0_1_2_7_8_9_10 q cI cJ cD Tn Ta Rn Ra Rb Rd)) [0, 1, 2, 3, 4, 5, 6] rfl, gEv.warm hW hE⟩⟩ rfl rfl hl.1 rfl (lv_room (Nat.le_of_ble_eq_true rfl)) dX8_runEnd_2 ⟨Nat.zero_le _, Nat.zero_le _⟩) hP hS (gSub rfl) rfl rfl rfl rfl rfl (fun H locs hP hS => ?_)
  refine lv_aload_n hx hb dX8_runEnd_5 rfl (lv_at hl 0 rfl) ?_
  refine va_get (D := D) (ci := 6) (v := .ref (q 7)) (C := RX8) (T := TX8) (N := 6) hx hb hts huX8 hown hE.1 hP 0 rfl rfl 3 (by decide) hk33 (fun _ h9 => h9) rfl dX8_runEnd_6 ?_
  refine lv_iload_n hx hb dX8_runEnd_9 rfl (lv_at hl 1 rfl) ?_
  obtain ⟨r10, hc, hf⟩ := bn_some hf
  try dsimp only at hf
  refine g_call0 (ws' := (w_0_1_2_7_8_9_10 q cI cJ cD Tn Ta Rn2 Ra2 Rb2 Rd2)) (st1 := [.int r10]) hq [0, 1, 2, 7, 8, 9, 10] [7, 9] [.inr 0, .inr 1, .inr 2, .inl 0, .inr 4, .inl 1, .inr 6] (va_runV (As := [.int p1]) (rest := []) ⟨hx, hb, hml, hown, hts⟩ (kX6_end l D cI cJ cD q hq N Rn2 Rb2 p1 r10 hc) (cwV 1 hts gX8_runEnd_X6_end rfl rfl rfl (by decide +kernel) ⟨(Nat.le_of_ble_eq_true rfl), (Nat.le_of_ble_eq_true rfl)⟩) ⟨gP_blind, va_recv hE.1 hP (ci := 4) (q0 := 3) rfl rfl, fun U hU hW => ⟨rfl, by rw [hU]; exact hP.sub (ws' := (w_7_9 q cI cJ cD Rn2 Rb2)) [3, 5] rfl, gEv.warm hW hE⟩⟩ rfl rfl hl.1 rfl (lv_room (Nat.le_of_ble_eq_true rfl)) dX8_runEnd_10 ⟨Nat.zero_le _, Nat.zero_le _⟩) hP hS (gSub rfl) rfl rfl rfl rfl rfl (fun H locs hP hS => ?_)
  cases hf
  exact W.iret hx hb hr (fun t ht hW => ⟨⟨rfl, by rw [ht]; exact hP⟩, hS.F ht⟩) hS.2.2 dX8_runEnd_13
set_option maxHeartbeats 4000000 in
set_option maxRecDepth 100000 in
theorem kX8_runEndx (l : Launch) (hlt : l.stackTraces = false) (D : va_G) (cI cJ cD : ClassId) (sa : Nat → Nat) (q : Nat → Nat) (hq : gInj q) (N : Nat) (Tn : Int32) (Ta : (Nat → Int32)) (Rn : Int32) (Ra : (Nat → Int32)) (Rb : (Nat → Int32)) (Rd : (Nat → Int32)) (p1 : Int32) (e0 : Nat) (Rn9 : Int32) (Ra9 : (Nat → Int32)) (Rb9 : (Nat → Int32)) (Rd9 : (Nat → Int32)) (hf : fX8_runEnd N Tn Ta Rn Ra Rb Rd p1 = some (.inl (e0, Rn9, Ra9, Rb9, Rd9))) : vx_Met l yX8_runEnd wsX8_runEnd rX8_runEndx (gPx D cI cJ cD sa (gA q [0, 1, 2, 7, 8, 9, 10]) [.ref (q 0), .int p1] (w_0_1_2_7_8_9_10 q cI cJ cD Tn Ta Rn Ra Rb Rd)) (fun _ _ _ _ => False) (gX D (gEn e0) (w_0_1_2_7_8_9_10 q cI cJ cD Tn Ta Rn9 Ra9 Rb9 Rd9) (gA q [0, 1, 2, 7, 8, 9, 10])) 1 6 (gA q [0, 1, 2, 7, 8, 9, 10]) := by
  refine vx_ofW (cc := cX8_runEnd) (maxL := 2) (ret := (some .int)) (by decide +kernel) rfl ?_
  intro p e s m args below meth c s₁ B hml htab hv
  obtain ⟨rfl, hP, hE, hXe⟩ := hv
  have hx := B.exec
  have hb := B.bytes
  have hr := B.returns
  have hts := atoms_spec (ws := wsX8_runEnd) B.pre
  have hown : s.vm.findClass RX8 = some m.cls := findClass_of_methodNamed B.named
  have hlocks := B.notSynchronized
  have hS : va_S (gA q [0, 1, 2, 7, 8, 9, 10]) s.heap s.heap [] := va_S.rf
  have hl := lv_entry ([.ref (q 0), .int p1]) (n := 2) (Nat.le_of_ble_eq_true rfl)
  rw [lg_entry_eq]
  generalize (lg_sl ([.ref (q 0), .int p1]) ++ List.replicate (2 - (lg_sl ([.ref (q 0), .int p1])).length) Slot.unset).toArray = ls at hl ⊢
  have hl : lv_has ls 2 [(0, .ref (q 0)), (1, .int p1)] := hl
  have hk33 := hts (.fieldLink RX8 33 "LyndonText" "runRow" "LLyndonText$Runs;") (by decide +kernel)
  have huX8 : ∀ w ∈ u_ws RX8 TX8 6, w ∈ wsX8_runEnd := by decide +kernel
  unfold fX8_runEnd at hf
  refine lv_aload_n hx hb dX8_runEnd_0 rfl (lv_at hl 0 rfl) ?_
  refine lv_iload_n hx hb dX8_runEnd_1 rfl (lv_at hl 1 rfl) ?_
  rcases bx_some hf with ⟨⟨e2, Rn2, Ra2, Rb2, Rd2⟩, hc, hf⟩ | ⟨⟨Rn2, Ra2, Rb2, Rd2⟩, hc, hf⟩
  · try dsimp only at hf
    refine g_callX (ws' := (w_0_1_2_7_8_9_10 q cI cJ cD Tn Ta Rn2 Ra2 Rb2 Rd2)) hq [0, 1, 2, 7, 8, 9, 10] [0, 1, 2, 7, 8, 9, 10] [.inl 0, .inl 1, .inl 2, .inl 3, .inl 4, .inl 5, .inl 6] (vx_runV (As := [.int p1]) (rest := []) ⟨hx, hb, hml, hown, hts⟩ (kX8_findRunx l hlt D cI cJ cD sa q hq N Tn Ta Rn Ra Rb Rd p1 e2 Rn2 Ra2 Rb2 Rd2 hc) (cwV 1 hts gX8_runEnd_X8_findRun rfl rfl rfl (by decide +kernel) ⟨(Nat.le_of_ble_eq_true rfl), (Nat.le_of_ble_eq_true rfl)⟩) ⟨gPx_blind, va_recv hE.1 hP (ci := 6) (q0 := 0) rfl rfl, fun U hU hW => ⟨rfl, by rw [hU]; exact hP.sub (ws' := (w_0_1_2_7_8_9_10 q cI cJ cD Tn Ta Rn Ra Rb Rd)) [0, 1, 2, 3, 4, 5, 6] rfl, gEv.warm hW hE, gXe.go hW hS (gMono rfl) hXe hU⟩⟩ rfl rfl hl.1 rfl (lv_room (Nat.le_of_ble_eq_true rfl)) dX8_runEnd_2 ⟨(Nat.le_of_ble_eq_true rfl), (Nat.le_of_ble_eq_true rfl)⟩) hP hS (gSub rfl) rfl rfl rfl rfl (fun ce q9 H locs hP hS hce hcv hcl => ?_)
    cases hf
    exact vx_out (fun x9 hx9 => (htab x9 hx9).elim) hlocks hce hcv hcl (fun t ht hv => ⟨rfl, by rw [ht]; exact hP, hS.F ht⟩) hS.2.2 (Nat.le_of_ble_eq_true rfl) (Nat.le_of_ble_eq_true rfl)
  try dsimp only at hf
  refine g_call0 (ws' := (w_0_1_2_7_8_9_10 q cI cJ cD Tn Ta Rn2 Ra2 Rb2 Rd2)) (st1 := []) hq [0, 1, 2, 7, 8, 9, 10] [0, 1, 2, 7, 8, 9, 10] [.inl 0, .inl 1, .inl 2, .inl 3, .inl 4, .inl 5, .inl 6] (va_runV (As := [.int p1]) (rest := []) ⟨hx, hb, hml, hown, hts⟩ (kX8_findRun l D cI cJ cD q hq N Tn Ta Rn Ra Rb Rd p1 Rn2 Ra2 Rb2 Rd2 hc) (cwV 1 hts gX8_runEnd_X8_findRun rfl rfl rfl (by decide +kernel) ⟨(Nat.le_of_ble_eq_true rfl), (Nat.le_of_ble_eq_true rfl)⟩) ⟨gP_blind, va_recv hE.1 hP (ci := 6) (q0 := 0) rfl rfl, fun U hU hW => ⟨rfl, by rw [hU]; exact hP.sub (ws' := (w_0_1_2_7_8_9_10 q cI cJ cD Tn Ta Rn Ra Rb Rd)) [0, 1, 2, 3, 4, 5, 6] rfl, gEv.warm hW hE⟩⟩ rfl rfl hl.1 rfl (lv_room (Nat.le_of_ble_eq_true rfl)) dX8_runEnd_2 ⟨Nat.zero_le _, Nat.zero_le _⟩) hP hS (gSub rfl) rfl rfl rfl rfl rfl (fun H locs hP hS => ?_)
  refine lv_aload_n hx hb dX8_runEnd_5 rfl (lv_at hl 0 rfl) ?_
  refine va_get (D := D) (ci := 6) (v := .ref (q 7)) (C := RX8) (T := TX8) (N := 6) hx hb hts huX8 hown hE.1 hP 0 rfl rfl 3 (by decide) hk33 (fun _ h9 => h9) rfl dX8_runEnd_6 ?_
  refine lv_iload_n hx hb dX8_runEnd_9 rfl (lv_at hl 1 rfl) ?_
  obtain ⟨r10, hc, hf⟩ := bn_some hf
  try dsimp only at hf
  refine g_call0 (ws' := (w_0_1_2_7_8_9_10 q cI cJ cD Tn Ta Rn2 Ra2 Rb2 Rd2)) (st1 := [.int r10]) hq [0, 1, 2, 7, 8, 9, 10] [7, 9] [.inr 0, .inr 1, .inr 2, .inl 0, .inr 4, .inl 1, .inr 6] (va_runV (As := [.int p1]) (rest := []) ⟨hx, hb, hml, hown, hts⟩ (kX6_end l D cI cJ cD q hq N Rn2 Rb2 p1 r10 hc) (cwV 1 hts gX8_runEnd_X6_end rfl rfl rfl (by decide +kernel) ⟨(Nat.le_of_ble_eq_true rfl), (Nat.le_of_ble_eq_true rfl)⟩) ⟨gP_blind, va_recv hE.1 hP (ci := 4) (q0 := 3) rfl rfl, fun U hU hW => ⟨rfl, by rw [hU]; exact hP.sub (ws' := (w_7_9 q cI cJ cD Rn2 Rb2)) [3, 5] rfl, gEv.warm hW hE⟩⟩ rfl rfl hl.1 rfl (lv_room (Nat.le_of_ble_eq_true rfl)) dX8_runEnd_10 ⟨Nat.zero_le _, Nat.zero_le _⟩) hP hS (gSub rfl) rfl rfl rfl rfl rfl (fun H locs hP hS => ?_)
  exact nomatch hf
set_option maxHeartbeats 4000000 in
set_option maxRecDepth 100000 in
theorem kX8_runPeriod (l : Launch) (D : va_G) (cI cJ cD : ClassId) (q : Nat → Nat) (hq : gInj q) (N : Nat) (Tn : Int32) (Ta : (Nat → Int32)) (Rn : Int32) (Ra : (Nat → Int32)) (Rb : (Nat → Int32)) (Rd : (Nat → Int32)) (p1 : Int32) (r0 : Int32) (Rn9 : Int32) (Ra9 : (Nat → Int32)) (Rb9 : (Nat → Int32)) (Rd9 : (Nat → Int32)) (hf : fX8_runPeriod N Tn Ta Rn Ra Rb Rd p1 = some (.inr (r0, Rn9, Ra9, Rb9, Rd9))) : Met l yX8_runPeriod wsX8_runPeriod rX8_runPeriod (gP D cI cJ cD [.ref (q 0), .int p1] (w_0_1_2_7_8_9_10 q cI cJ cD Tn Ta Rn Ra Rb Rd)) (gQ D (some (.int r0)) (w_0_1_2_7_8_9_10 q cI cJ cD Tn Ta Rn9 Ra9 Rb9 Rd9) (gA q [0, 1, 2, 7, 8, 9, 10])) 0 0 (gA q [0, 1, 2, 7, 8, 9, 10]) := by
  refine Met.ofW (cc := cX8_runPeriod) (maxL := 2) (ret := (some .int)) (by decide +kernel) rfl ?_
  intro p e s m args below meth c s₁ B hml hv
  obtain ⟨rfl, hP, hE⟩ := hv
  have hx := B.exec
  have hb := B.bytes
  have hr := B.returns
  have hts := atoms_spec (ws := wsX8_runPeriod) B.pre
  have hown : s.vm.findClass RX8 = some m.cls := findClass_of_methodNamed B.named
  have hlocks := B.notSynchronized
  have hS : va_S (gA q [0, 1, 2, 7, 8, 9, 10]) s.heap s.heap [] := va_S.rf
  have hl := lv_entry ([.ref (q 0), .int p1]) (n := 2) (Nat.le_of_ble_eq_true rfl)
  rw [lg_entry_eq]
  generalize (lg_sl ([.ref (q 0), .int p1]) ++ List.replicate (2 - (lg_sl ([.ref (q 0), .int p1])).length) Slot.unset).toArray = ls at hl ⊢
  have hl : lv_has ls 2 [(0, .ref (q 0)), (1, .int p1)] := hl
  have hk33 := hts (.fieldLink RX8 33 "LyndonText" "runRow" "LLyndonText$Runs;") (by decide +kernel)
  have huX8 : ∀ w ∈ u_ws RX8 TX8 6, w ∈ wsX8_runPeriod := by decide +kernel
  unfold fX8_runPeriod at hf
  refine lv_aload_n hx hb dX8_runPeriod_0 rfl (lv_at hl 0 rfl) ?_
  refine lv_iload_n hx hb dX8_runPeriod_1 rfl (lv_at hl 1 rfl) ?_
  rcases bx_some hf with ⟨⟨e2, Rn2, Ra2, Rb2, Rd2⟩, hc, hf⟩ | ⟨⟨Rn2, Ra2, Rb2, Rd2⟩, hc, hf⟩
  · exact nomatch hf
  try dsimp only at hf
  refine g_call0 (ws' := (w_0_1_2_7_8_9_10 q cI cJ cD Tn Ta Rn2 Ra2 Rb2 Rd2)) (st1 := []) hq [0, 1, 2, 7, 8, 9, 10] [0, 1, 2, 7, 8, 9, 10] [.inl 0, .inl 1, .inl 2, .inl 3, .inl 4, .inl 5, .inl 6] (va_runV (As := [.int p1]) (rest := []) ⟨hx, hb, hml, hown, hts⟩ (kX8_findRun l D cI cJ cD q hq N Tn Ta Rn Ra Rb Rd p1 Rn2 Ra2 Rb2 Rd2 hc) (cwV 1 hts gX8_runPeriod_X8_findRun rfl rfl rfl (by decide +kernel) ⟨(Nat.le_of_ble_eq_true rfl), (Nat.le_of_ble_eq_true rfl)⟩) ⟨gP_blind, va_recv hE.1 hP (ci := 6) (q0 := 0) rfl rfl, fun U hU hW => ⟨rfl, by rw [hU]; exact hP.sub (ws' := (w_0_1_2_7_8_9_10 q cI cJ cD Tn Ta Rn Ra Rb Rd)) [0, 1, 2, 3, 4, 5, 6] rfl, gEv.warm hW hE⟩⟩ rfl rfl hl.1 rfl (lv_room (Nat.le_of_ble_eq_true rfl)) dX8_runPeriod_2 ⟨Nat.zero_le _, Nat.zero_le _⟩) hP hS (gSub rfl) rfl rfl rfl rfl rfl (fun H locs hP hS => ?_)
  refine lv_aload_n hx hb dX8_runPeriod_5 rfl (lv_at hl 0 rfl) ?_
  refine va_get (D := D) (ci := 6) (v := .ref (q 7)) (C := RX8) (T := TX8) (N := 6) hx hb hts huX8 hown hE.1 hP 0 rfl rfl 3 (by decide) hk33 (fun _ h9 => h9) rfl dX8_runPeriod_6 ?_
  refine lv_iload_n hx hb dX8_runPeriod_9 rfl (lv_at hl 1 rfl) ?_
  obtain ⟨r10, hc, hf⟩ := bn_some hf
  try dsimp only at hf
  refine g_call0 (ws' := (w_0_1_2_7_8_9_10 q cI cJ cD Tn Ta Rn2 Ra2 Rb2 Rd2)) (st1 := [.int r10]) hq [0, 1, 2, 7, 8, 9, 10] [7, 10] [.inr 0, .inr 1, .inr 2, .inl 0, .inr 4, .inr 5, .inl 1] (va_runV (As := [.int p1]) (rest := []) ⟨hx, hb, hml, hown, hts⟩ (kX6_leastPeriod l D cI cJ cD q hq N Rn2 Rd2 p1 r10 hc) (cwV 1 hts gX8_runPeriod_X6_leastPeriod rfl rfl rfl (by decide +kernel) ⟨(Nat.le_of_ble_eq_true rfl), (Nat.le_of_ble_eq_true rfl)⟩) ⟨gP_blind, va_recv hE.1 hP (ci := 4) (q0 := 3) rfl rfl, fun U hU hW => ⟨rfl, by rw [hU]; exact hP.sub (ws' := (w_7_10 q cI cJ cD Rn2 Rd2)) [3, 6] rfl, gEv.warm hW hE⟩⟩ rfl rfl hl.1 rfl (lv_room (Nat.le_of_ble_eq_true rfl)) dX8_runPeriod_10 ⟨Nat.zero_le _, Nat.zero_le _⟩) hP hS (gSub rfl) rfl rfl rfl rfl rfl (fun H locs hP hS => ?_)
  cases hf
  exact W.iret hx hb hr (fun t ht hW => ⟨⟨rfl, by rw [ht]; exact hP⟩, hS.F ht⟩) hS.2.2 dX8_runPeriod_13
set_option maxHeartbeats 4000000 in
set_option maxRecDepth 100000 in
theorem kX8_runPeriodx (l : Launch) (hlt : l.stackTraces = false) (D : va_G) (cI cJ cD : ClassId) (sa : Nat → Nat) (q : Nat → Nat) (hq : gInj q) (N : Nat) (Tn : Int32) (Ta : (Nat → Int32)) (Rn : Int32) (Ra : (Nat → Int32)) (Rb : (Nat → Int32)) (Rd : (Nat → Int32)) (p1 : Int32) (e0 : Nat) (Rn9 : Int32) (Ra9 : (Nat → Int32)) (Rb9 : (Nat → Int32)) (Rd9 : (Nat → Int32)) (hf : fX8_runPeriod N Tn Ta Rn Ra Rb Rd p1 = some (.inl (e0, Rn9, Ra9, Rb9, Rd9))) : vx_Met l yX8_runPeriod wsX8_runPeriod rX8_runPeriodx (gPx D cI cJ cD sa (gA q [0, 1, 2, 7, 8, 9, 10]) [.ref (q 0), .int p1] (w_0_1_2_7_8_9_10 q cI cJ cD Tn Ta Rn Ra Rb Rd)) (fun _ _ _ _ => False) (gX D (gEn e0) (w_0_1_2_7_8_9_10 q cI cJ cD Tn Ta Rn9 Ra9 Rb9 Rd9) (gA q [0, 1, 2, 7, 8, 9, 10])) 1 6 (gA q [0, 1, 2, 7, 8, 9, 10]) := by
  refine vx_ofW (cc := cX8_runPeriod) (maxL := 2) (ret := (some .int)) (by decide +kernel) rfl ?_
  intro p e s m args below meth c s₁ B hml htab hv
  obtain ⟨rfl, hP, hE, hXe⟩ := hv
  have hx := B.exec
  have hb := B.bytes
  have hr := B.returns
  have hts := atoms_spec (ws := wsX8_runPeriod) B.pre
  have hown : s.vm.findClass RX8 = some m.cls := findClass_of_methodNamed B.named
  have hlocks := B.notSynchronized
  have hS : va_S (gA q [0, 1, 2, 7, 8, 9, 10]) s.heap s.heap [] := va_S.rf
  have hl := lv_entry ([.ref (q 0), .int p1]) (n := 2) (Nat.le_of_ble_eq_true rfl)
  rw [lg_entry_eq]
  generalize (lg_sl ([.ref (q 0), .int p1]) ++ List.replicate (2 - (lg_sl ([.ref (q 0), .int p1])).length) Slot.unset).toArray = ls at hl ⊢
  have hl : lv_has ls 2 [(0, .ref (q 0)), (1, .int p1)] := hl
  have hk33 := hts (.fieldLink RX8 33 "LyndonText" "runRow" "LLyndonText$Runs;") (by decide +kernel)
  have huX8 : ∀ w ∈ u_ws RX8 TX8 6, w ∈ wsX8_runPeriod := by decide +kernel
  unfold fX8_runPeriod at hf
  refine lv_aload_n hx hb dX8_runPeriod_0 rfl (lv_at hl 0 rfl) ?_
  refine lv_iload_n hx hb dX8_runPeriod_1 rfl (lv_at hl 1 rfl) ?_
  rcases bx_some hf with ⟨⟨e2, Rn2, Ra2, Rb2, Rd2⟩, hc, hf⟩ | ⟨⟨Rn2, Ra2, Rb2, Rd2⟩, hc, hf⟩
  · try dsimp only at hf
    refine g_callX (ws' := (w_0_1_2_7_8_9_10 q cI cJ cD Tn Ta Rn2 Ra2 Rb2 Rd2)) hq [0, 1, 2, 7, 8, 9, 10] [0, 1, 2, 7, 8, 9, 10] [.inl 0, .inl 1, .inl 2, .inl 3, .inl 4, .inl 5, .inl 6] (vx_runV (As := [.int p1]) (rest := []) ⟨hx, hb, hml, hown, hts⟩ (kX8_findRunx l hlt D cI cJ cD sa q hq N Tn Ta Rn Ra Rb Rd p1 e2 Rn2 Ra2 Rb2 Rd2 hc) (cwV 1 hts gX8_runPeriod_X8_findRun rfl rfl rfl (by decide +kernel) ⟨(Nat.le_of_ble_eq_true rfl), (Nat.le_of_ble_eq_true rfl)⟩) ⟨gPx_blind, va_recv hE.1 hP (ci := 6) (q0 := 0) rfl rfl, fun U hU hW => ⟨rfl, by rw [hU]; exact hP.sub (ws' := (w_0_1_2_7_8_9_10 q cI cJ cD Tn Ta Rn Ra Rb Rd)) [0, 1, 2, 3, 4, 5, 6] rfl, gEv.warm hW hE, gXe.go hW hS (gMono rfl) hXe hU⟩⟩ rfl rfl hl.1 rfl (lv_room (Nat.le_of_ble_eq_true rfl)) dX8_runPeriod_2 ⟨(Nat.le_of_ble_eq_true rfl), (Nat.le_of_ble_eq_true rfl)⟩) hP hS (gSub rfl) rfl rfl rfl rfl (fun ce q9 H locs hP hS hce hcv hcl => ?_)
    cases hf
    exact vx_out (fun x9 hx9 => (htab x9 hx9).elim) hlocks hce hcv hcl (fun t ht hv => ⟨rfl, by rw [ht]; exact hP, hS.F ht⟩) hS.2.2 (Nat.le_of_ble_eq_true rfl) (Nat.le_of_ble_eq_true rfl)
  try dsimp only at hf
  refine g_call0 (ws' := (w_0_1_2_7_8_9_10 q cI cJ cD Tn Ta Rn2 Ra2 Rb2 Rd2)) (st1 := []) hq [0, 1, 2, 7, 8, 9, 10] [0, 1, 2, 7, 8, 9, 10] [.inl 0, .inl 1, .inl 2, .inl 3, .inl 4, .inl 5, .inl 6] (va_runV (As := [.int p1]) (rest := []) ⟨hx, hb, hml, hown, hts⟩ (kX8_findRun l D cI cJ cD q hq N Tn Ta Rn Ra Rb Rd p1 Rn2 Ra2 Rb2 Rd2 hc) (cwV 1 hts gX8_runPeriod_X8_findRun rfl rfl rfl (by decide +kernel) ⟨(Nat.le_of_ble_eq_true rfl), (Nat.le_of_ble_eq_true rfl)⟩) ⟨gP_blind, va_recv hE.1 hP (ci := 6) (q0 := 0) rfl rfl, fun U hU hW => ⟨rfl, by rw [hU]; exact hP.sub (ws' := (w_0_1_2_7_8_9_10 q cI cJ cD Tn Ta Rn Ra Rb Rd)) [0, 1, 2, 3, 4, 5, 6] rfl, gEv.warm hW hE⟩⟩ rfl rfl hl.1 rfl (lv_room (Nat.le_of_ble_eq_true rfl)) dX8_runPeriod_2 ⟨Nat.zero_le _, Nat.zero_le _⟩) hP hS (gSub rfl) rfl rfl rfl rfl rfl (fun H locs hP hS => ?_)
  refine lv_aload_n hx hb dX8_runPeriod_5 rfl (lv_at hl 0 rfl) ?_
  refine va_get (D := D) (ci := 6) (v := .ref (q 7)) (C := RX8) (T := TX8) (N := 6) hx hb hts huX8 hown hE.1 hP 0 rfl rfl 3 (by decide) hk33 (fun _ h9 => h9) rfl dX8_runPeriod_6 ?_
  refine lv_iload_n hx hb dX8_runPeriod_9 rfl (lv_at hl 1 rfl) ?_
  obtain ⟨r10, hc, hf⟩ := bn_some hf
  try dsimp only at hf
  refine g_call0 (ws' := (w_0_1_2_7_8_9_10 q cI cJ cD Tn Ta Rn2 Ra2 Rb2 Rd2)) (st1 := [.int r10]) hq [0, 1, 2, 7, 8, 9, 10] [7, 10] [.inr 0, .inr 1, .inr 2, .inl 0, .inr 4, .inr 5, .inl 1] (va_runV (As := [.int p1]) (rest := []) ⟨hx, hb, hml, hown, hts⟩ (kX6_leastPeriod l D cI cJ cD q hq N Rn2 Rd2 p1 r10 hc) (cwV 1 hts gX8_runPeriod_X6_leastPeriod rfl rfl rfl (by decide +kernel) ⟨(Nat.le_of_ble_eq_true rfl), (Nat.le_of_ble_eq_true rfl)⟩) ⟨gP_blind, va_recv hE.1 hP (ci := 4) (q0 := 3) rfl rfl, fun U hU hW => ⟨rfl, by rw [hU]; exact hP.sub (ws' := (w_7_10 q cI cJ cD Rn2 Rd2)) [3, 6] rfl, gEv.warm hW hE⟩⟩ rfl rfl hl.1 rfl (lv_room (Nat.le_of_ble_eq_true rfl)) dX8_runPeriod_10 ⟨Nat.zero_le _, Nat.zero_le _⟩) hP hS (gSub rfl) rfl rfl rfl rfl rfl (fun H locs hP hS => ?_)
  exact nomatch hf
set_option maxHeartbeats 4000000 in
set_option maxRecDepth 100000 in
theorem kX8_runsOver (l : Launch) (D : va_G) (cI cJ cD : ClassId) (q : Nat → Nat) (hq : gInj q) (N : Nat) (Tn : Int32) (Ta : (Nat → Int32)) (Rn : Int32) (Ra : (Nat → Int32)) (Rb : (Nat → Int32)) (Rd : (Nat → Int32)) (p1 : Int32) (r0 : Int32) (Rn9 : Int32) (Ra9 : (Nat → Int32)) (Rb9 : (Nat → Int32)) (Rd9 : (Nat → Int32)) (hf : fX8_runsOver N Tn Ta Rn Ra Rb Rd p1 = some (.inr (r0, Rn9, Ra9, Rb9, Rd9))) : Met l yX8_runsOver wsX8_runsOver rX8_runsOver (gP D cI cJ cD [.ref (q 0), .int p1] (w_0_1_2_7_8_9_10 q cI cJ cD Tn Ta Rn Ra Rb Rd)) (gQ D (some (.int r0)) (w_0_1_2_7_8_9_10 q cI cJ cD Tn Ta Rn9 Ra9 Rb9 Rd9) (gA q [0, 1, 2, 7, 8, 9, 10])) 0 0 (gA q [0, 1, 2, 7, 8, 9, 10]) := by
  refine Met.ofW (cc := cX8_runsOver) (maxL := 4) (ret := (some .int)) (by decide +kernel) rfl ?_
  intro p e s m args below meth c s₁ B hml hv
  obtain ⟨rfl, hP, hE⟩ := hv
  have hx := B.exec
  have hb := B.bytes
  have hr := B.returns
  have hts := atoms_spec (ws := wsX8_runsOver) B.pre
  have hown : s.vm.findClass RX8 = some m.cls := findClass_of_methodNamed B.named
  have hlocks := B.notSynchronized
  have hS : va_S (gA q [0, 1, 2, 7, 8, 9, 10]) s.heap s.heap [] := va_S.rf
  have hl := lv_entry ([.ref (q 0), .int p1]) (n := 4) (Nat.le_of_ble_eq_true rfl)
  rw [lg_entry_eq]
  generalize (lg_sl ([.ref (q 0), .int p1]) ++ List.replicate (4 - (lg_sl ([.ref (q 0), .int p1])).length) Slot.unset).toArray = ls at hl ⊢
  have hl : lv_has ls 4 [(0, .ref (q 0)), (1, .int p1)] := hl
  have hk10 := hts (.fieldLink RX8 10 "LyndonText" "text" "LLyndonText$Letters;") (by decide +kernel)
  have hk33 := hts (.fieldLink RX8 33 "LyndonText" "runRow" "LLyndonText$Runs;") (by decide +kernel)
  have huX8 : ∀ w ∈ u_ws RX8 TX8 6, w ∈ wsX8_runsOver := by decide +kernel
  have J70 : ∀ (Rn : Int32) (Ra : (Nat → Int32)) (Rb : (Nat → Int32)) (Rd : (Nat → Int32)) (x2 : Int32), fX8_runsOver_J70 N Tn Ta Rn Ra Rb Rd x2 = some (.inr (r0, Rn9, Ra9, Rb9, Rd9)) → ∀ (H : Heap) (locs : List Loc), va_P D vwCl (w_0_1_2_7_8_9_10 q cI cJ cD Tn Ta Rn Ra Rb Rd) H → va_S (gA q [0, 1, 2, 7, 8, 9, 10]) s.heap H locs → ∀ ls : Array Slot, lv_has ls 4 [(2, .int x2)] → W p l e (headSpec wsX8_runsOver rX8_runsOver).room s m ([.ref (q 0), .int p1] : List Value).toArray below meth c H locs 0 0 (MQ below (gQ D (some (.int r0)) (w_0_1_2_7_8_9_10 q cI cJ cD Tn Ta Rn9 Ra9 Rb9 Rd9) (gA q [0, 1, 2, 7, 8, 9, 10])) ([.ref (q 0), .int p1] : List Value).toArray s 0 0 (gA q [0, 1, 2, 7, 8, 9, 10])) (F0 m 70 ls []) := by
    intro Rn Ra Rb Rd x2 hf H locs hP hS ls hl
    unfold fX8_runsOver_J70 at hf
    refine lv_iload_n hx hb dX8_runsOver_70 rfl (lv_at hl 0 rfl) ?_
    cases hf
    exact W.iret hx hb hr (fun t ht hW => ⟨⟨rfl, by rw [ht]; exact hP⟩, hS.F ht⟩) hS.2.2 dX8_runsOver_71
  have K26 : ∀ (n26 : Nat) (Rn : Int32) (Ra : (Nat → Int32)) (Rb : (Nat → Int32)) (Rd : (Nat → Int32)) (x1 : Int32) (x2 : Int32) (x3 : Int32), fX8_runsOver_H26 N Tn Ta n26 Rn Ra Rb Rd x1 x2 x3 = some (.inr (r0, Rn9, Ra9, Rb9, Rd9)) → ∀ (H : Heap) (locs : List Loc), va_P D vwCl (w_0_1_2_7_8_9_10 q cI cJ cD Tn Ta Rn Ra Rb Rd) H → va_S (gA q [0, 1, 2, 7, 8, 9, 10]) s.heap H locs → ∀ ls : Array Slot, lv_has ls 4 [(0, .ref (q 0)), (1, .int x1), (2, .int x2), (3, .int x3)] → W p l e (headSpec wsX8_runsOver rX8_runsOver).room s m ([.ref (q 0), .int p1] : List Value).toArray below meth c H locs 0 0 (MQ below (gQ D (some (.int r0)) (w_0_1_2_7_8_9_10 q cI cJ cD Tn Ta Rn9 Ra9 Rb9 Rd9) (gA q [0, 1, 2, 7, 8, 9, 10])) ([.ref (q 0), .int p1] : List Value).toArray s 0 0 (gA q [0, 1, 2, 7, 8, 9, 10])) (F0 m 26 ls []) := by
    intro n26
    induction n26 with
    | zero =>
      intro Rn Ra Rb Rd x1 x2 x3 hf
      exact nomatch (show (none : Option ((Nat × Int32 × (Nat → Int32) × (Nat → Int32) × (Nat → Int32)) ⊕ (Int32 × Int32 × (Nat → Int32) × (Nat → Int32) × (Nat → Int32)))) = some (.inr (r0, Rn9, Ra9, Rb9, Rd9)) from hf)
    | succ n26 ih26 =>
      have J64 : ∀ (Rn : Int32) (Ra : (Nat → Int32)) (Rb : (Nat → Int32)) (Rd : (Nat → Int32)) (x1 : Int32) (x2 : Int32) (x3 : Int32), fX8_runsOver_J64 N Tn Ta (fX8_runsOver_H26 N Tn Ta n26) Rn Ra Rb Rd x1 x2 x3 = some (.inr (r0, Rn9, Ra9, Rb9, Rd9)) → ∀ (H : Heap) (locs : List Loc), va_P D vwCl (w_0_1_2_7_8_9_10 q cI cJ cD Tn Ta Rn Ra Rb Rd) H → va_S (gA q [0, 1, 2, 7, 8, 9, 10]) s.heap H locs → ∀ ls : Array Slot, lv_has ls 4 [(0, .ref (q 0)), (1, .int x1), (2, .int x2), (3, .int x3)] → W p l e (headSpec wsX8_runsOver rX8_runsOver).room s m ([.ref (q 0), .int p1] : List Value).toArray below meth c H locs 0 0 (MQ below (gQ D (some (.int r0)) (w_0_1_2_7_8_9_10 q cI cJ cD Tn Ta Rn9 Ra9 Rb9 Rd9) (gA q [0, 1, 2, 7, 8, 9, 10])) ([.ref (q 0), .int p1] : List Value).toArray s 0 0 (gA q [0, 1, 2, 7, 8, 9, 10])) (F0 m 64 ls []) := by
        intro Rn Ra Rb Rd x1 x2 x3 hf H locs hP hS ls hl
        unfold fX8_runsOver_J64 at hf
        refine lv_iinc (v := (x3 + 1)) (lv' := [(3, .int (x3 + 1)), (0, .ref (q 0)), (1, .int x1), (2, .int x2)]) hx hb dX8_runsOver_64 hl (k := 3) rfl rfl (by decide) rfl (fun ls hl => ?_)
        refine lv_goto (tgt := 26) hx hb dX8_runsOver_67 (by decide) ?_
        exact ih26 Rn Ra Rb Rd x1 x2 (x3 + 1) hf _ _ hP hS _ (lv_sub hl [1, 2, 3, 0] rfl)
      intro Rn Ra Rb Rd x1 x2 x3 hf H locs hP hS ls hl
      have hf : fX8_runsOver_B26 N Tn Ta (fX8_runsOver_H26 N Tn Ta n26) Rn Ra Rb Rd x1 x2 x3 = some (.inr (r0, Rn9, Ra9, Rb9, Rd9)) := hf
      unfold fX8_runsOver_B26 at hf
      refine lv_iload_n hx hb dX8_runsOver_26 rfl (lv_at hl 3 rfl) ?_
      refine lv_aload_n hx hb dX8_runsOver_27 rfl (lv_at hl 0 rfl) ?_
      refine va_get (D := D) (ci := 6) (v := .ref (q 7)) (C := RX8) (T := TX8) (N := 6) hx hb hts huX8 hown hE.1 hP 0 rfl rfl 3 (by decide) hk33 (fun _ h9 => h9) rfl dX8_runsOver_28 ?_
      obtain ⟨r31, hc, hf⟩ := bn_some hf
      try dsimp only at hf
      refine g_call0 (ws' := (w_0_1_2_7_8_9_10 q cI cJ cD Tn Ta Rn Ra Rb Rd)) (st1 := [.int r31, .int x3]) hq [0, 1, 2, 7, 8, 9, 10] [7] [.inr 0, .inr 1, .inr 2, .inl 0, .inr 4, .inr 5, .inr 6] (va_runV (As := []) (rest := [.int x3]) ⟨hx, hb, hml, hown, hts⟩ (kX6_count l D cI cJ cD q hq N Rn r31 hc) (cwV 0 hts gX8_runsOver_X6_count rfl rfl rfl (by decide +kernel) ⟨(Nat.le_of_ble_eq_true rfl), (Nat.le_of_ble_eq_true rfl)⟩) ⟨gP_blind, va_recv hE.1 hP (ci := 4) (q0 := 3) rfl rfl, fun U hU hW => ⟨rfl, by rw [hU]; exact hP.sub (ws' := (w_7 q cI cJ cD Rn)) [3] rfl, gEv.warm hW hE⟩⟩ rfl rfl hl.1 rfl (lv_room (Nat.le_of_ble_eq_true rfl)) dX8_runsOver_31 ⟨Nat.zero_le _, Nat.zero_le _⟩) hP hS (gSub rfl) rfl rfl rfl rfl rfl (fun H locs hP hS => ?_)
      refine lv_icmp_ge (tgt := 70) hx hb dX8_runsOver_34 (by decide) (fun c_1 => ?_) (fun c_1 => ?_)
      · have hf := (if_pos c_1).symm.trans hf
        exact J70 Rn Ra Rb Rd x2 hf _ _ hP hS _ (lv_sub hl [2] rfl)
      · have hf := (if_neg c_1).symm.trans hf
        refine lv_aload_n hx hb dX8_runsOver_37 rfl (lv_at hl 0 rfl) ?_
        refine va_get (D := D) (ci := 6) (v := .ref (q 7)) (C := RX8) (T := TX8) (N := 6) hx hb hts huX8 hown hE.1 hP 0 rfl rfl 3 (by decide) hk33 (fun _ h9 => h9) rfl dX8_runsOver_38 ?_
        refine lv_iload_n hx hb dX8_runsOver_41 rfl (lv_at hl 3 rfl) ?_
        obtain ⟨r42, hc, hf⟩ := bn_some hf
        try dsimp only at hf
        refine g_call0 (ws' := (w_0_1_2_7_8_9_10 q cI cJ cD Tn Ta Rn Ra Rb Rd)) (st1 := [.int r42]) hq [0, 1, 2, 7, 8, 9, 10] [7, 8] [.inr 0, .inr 1, .inr 2, .inl 0, .inl 1, .inr 5, .inr 6] (va_runV (As := [.int x3]) (rest := []) ⟨hx, hb, hml, hown, hts⟩ (kX6_start l D cI cJ cD q hq N Rn Ra x3 r42 hc) (cwV 1 hts gX8_runsOver_X6_start rfl rfl rfl (by decide +kernel) ⟨(Nat.le_of_ble_eq_true rfl), (Nat.le_of_ble_eq_true rfl)⟩) ⟨gP_blind, va_recv hE.1 hP (ci := 4) (q0 := 3) rfl rfl, fun U hU hW => ⟨rfl, by rw [hU]; exact hP.sub (ws' := (w_7_8 q cI cJ cD Rn Ra)) [3, 4] rfl, gEv.warm hW hE⟩⟩ rfl rfl hl.1 rfl (lv_room (Nat.le_of_ble_eq_true rfl)) dX8_runsOver_42 ⟨Nat.zero_le _, Nat.zero_le _⟩) hP hS (gSub rfl) rfl rfl rfl rfl rfl (fun H locs hP hS => ?_)
        refine lv_iload_n hx hb dX8_runsOver_45 rfl (lv_at hl 1 rfl) ?_
        refine lv_icmp_gt (tgt := 64) hx hb dX8_runsOver_46 (by decide) (fun c_2 => ?_) (fun c_2 => ?_)
        · have hf := (if_pos c_2).symm.trans hf
          exact J64 Rn Ra Rb Rd x1 x2 x3 hf _ _ hP hS _ (lv_sub hl [0, 1, 2, 3] rfl)
        · have hf := (if_neg c_2).symm.trans hf
          refine lv_iload_n hx hb dX8_runsOver_49 rfl (lv_at hl 1 rfl) ?_
          refine lv_aload_n hx hb dX8_runsOver_50 rfl (lv_at hl 0 rfl) ?_
          refine va_get (D := D) (ci := 6) (v := .ref (q 7)) (C := RX8) (T := TX8) (N := 6) hx hb hts huX8 hown hE.1 hP 0 rfl rfl 3 (by decide) hk33 (fun _ h9 => h9) rfl dX8_runsOver_51 ?_
          refine lv_iload_n hx hb dX8_runsOver_54 rfl (lv_at hl 3 rfl) ?_
          obtain ⟨r55, hc, hf⟩ := bn_some hf
          try dsimp only at hf
          refine g_call0 (ws' := (w_0_1_2_7_8_9_10 q cI cJ cD Tn Ta Rn Ra Rb Rd)) (st1 := [.int r55, .int x1]) hq [0, 1, 2, 7, 8, 9, 10] [7, 9] [.inr 0, .inr 1, .inr 2, .inl 0, .inr 4, .inl 1, .inr 6] (va_runV (As := [.int x3]) (rest := [.int x1]) ⟨hx, hb, hml, hown, hts⟩ (kX6_end l D cI cJ cD q hq N Rn Rb x3 r55 hc) (cwV 1 hts gX8_runsOver_X6_end rfl rfl rfl (by decide +kernel) ⟨(Nat.le_of_ble_eq_true rfl), (Nat.le_of_ble_eq_true rfl)⟩) ⟨gP_blind, va_recv hE.1 hP (ci := 4) (q0 := 3) rfl rfl, fun U hU hW => ⟨rfl, by rw [hU]; exact hP.sub (ws' := (w_7_9 q cI cJ cD Rn Rb)) [3, 5] rfl, gEv.warm hW hE⟩⟩ rfl rfl hl.1 rfl (lv_room (Nat.le_of_ble_eq_true rfl)) dX8_runsOver_55 ⟨Nat.zero_le _, Nat.zero_le _⟩) hP hS (gSub rfl) rfl rfl rfl rfl rfl (fun H locs hP hS => ?_)
          refine lv_icmp_ge (tgt := 64) hx hb dX8_runsOver_58 (by decide) (fun c_3 => ?_) (fun c_3 => ?_)
          · have hf := (if_pos c_3).symm.trans hf
            exact J64 Rn Ra Rb Rd x1 x2 x3 hf _ _ hP hS _ (lv_sub hl [0, 1, 2, 3] rfl)
          · have hf := (if_neg c_3).symm.trans hf
            refine lv_iinc (v := (x2 + 1)) (lv' := [(2, .int (x2 + 1)), (0, .ref (q 0)), (1, .int x1), (3, .int x3)]) hx hb dX8_runsOver_61 hl (k := 2) rfl rfl (by decide) rfl (fun ls hl => ?_)
            exact J64 Rn Ra Rb Rd x1 (x2 + 1) x3 hf _ _ hP hS _ (lv_sub hl [1, 2, 0, 3] rfl)
  unfold fX8_runsOver at hf
  refine lv_iload_n hx hb dX8_runsOver_0 rfl (lv_at hl 1 rfl) ?_
  refine lv_aload_n hx hb dX8_runsOver_1 rfl (lv_at hl 0 rfl) ?_
  refine va_get (D := D) (ci := 6) (v := .ref (q 1)) (C := RX8) (T := TX8) (N := 6) hx hb hts huX8 hown hE.1 hP 0 rfl rfl 0 (by decide) hk10 (fun _ h9 => h9) rfl dX8_runsOver_2 ?_
  obtain ⟨r5, hc, hf⟩ := bn_some hf
  try dsimp only at hf
  refine g_call0 (ws' := (w_0_1_2_7_8_9_10 q cI cJ cD Tn Ta Rn Ra Rb Rd)) (st1 := [.int r5, .int p1]) hq [0, 1, 2, 7, 8, 9, 10] [1] [.inr 0, .inl 0, .inr 2, .inr 3, .inr 4, .inr 5, .inr 6] (va_runV (As := []) (rest := [.int p1]) ⟨hx, hb, hml, hown, hts⟩ (kX2_count l D cI cJ cD q hq N Tn r5 hc) (cwV 0 hts gX8_runsOver_X2_count rfl rfl rfl (by decide +kernel) ⟨(Nat.le_of_ble_eq_true rfl), (Nat.le_of_ble_eq_true rfl)⟩) ⟨gP_blind, va_recv hE.1 hP (ci := 2) (q0 := 1) rfl rfl, fun U hU hW => ⟨rfl, by rw [hU]; exact hP.sub (ws' := (w_1 q cI cJ cD Tn)) [1] rfl, gEv.warm hW hE⟩⟩ rfl rfl hl.1 rfl (lv_room (Nat.le_of_ble_eq_true rfl)) dX8_runsOver_5 ⟨Nat.zero_le _, Nat.zero_le _⟩) hP hS (gSub rfl) rfl rfl rfl rfl rfl (fun H locs hP hS => ?_)
  rcases bx_some hf with ⟨e8, hc, hf⟩ | ⟨⟨⟩, hc, hf⟩
  · exact nomatch hf
  try dsimp only at hf
  refine g_call0 (ws' := (w_0_1_2_7_8_9_10 q cI cJ cD Tn Ta Rn Ra Rb Rd)) (st1 := []) hq [0, 1, 2, 7, 8, 9, 10] [] [.inr 0, .inr 1, .inr 2, .inr 3, .inr 4, .inr 5, .inr 6] (va_runS (As := [.int p1, .int r5]) (rest := []) ⟨hx, hb, hml, hown, hts⟩ (kX8_checkIndex l D cI cJ cD q hq N p1 r5 hc) (va_cwS 2 hts gX8_runsOver_X8_checkIndex rfl rfl rfl (by decide +kernel) ⟨(Nat.le_of_ble_eq_true rfl), (Nat.le_of_ble_eq_true rfl)⟩) ⟨gP_blind, fun U hU hW => ⟨rfl, by rw [hU]; exact hP.sub (ws' := (w_0none q cI cJ cD)) [] rfl, gEv.warm hW hE⟩⟩ rfl rfl hl.1 rfl (lv_room (Nat.le_of_ble_eq_true rfl)) dX8_runsOver_8 ⟨Nat.zero_le _, Nat.zero_le _⟩) hP hS (gSub rfl) rfl rfl rfl rfl rfl (fun H locs hP hS => ?_)
  refine lv_aload_n hx hb dX8_runsOver_11 rfl (lv_at hl 0 rfl) ?_
  refine va_get (D := D) (ci := 6) (v := .ref (q 7)) (C := RX8) (T := TX8) (N := 6) hx hb hts huX8 hown hE.1 hP 0 rfl rfl 3 (by decide) hk33 (fun _ h9 => h9) rfl dX8_runsOver_12 ?_
  refine lv_aload_n hx hb dX8_runsOver_15 rfl (lv_at hl 0 rfl) ?_
  refine va_get (D := D) (ci := 6) (v := .ref (q 1)) (C := RX8) (T := TX8) (N := 6) hx hb hts huX8 hown hE.1 hP 0 rfl rfl 0 (by decide) hk10 (fun _ h9 => h9) rfl dX8_runsOver_16 ?_
  obtain ⟨⟨Rn19, Ra19, Rb19, Rd19⟩, hc, hf⟩ := bn_some hf
  try dsimp only at hf
  refine g_call0 (ws' := (w_0_1_2_7_8_9_10 q cI cJ cD Tn Ta Rn19 Ra19 Rb19 Rd19)) (st1 := []) hq [0, 1, 2, 7, 8, 9, 10] [1, 2, 7, 8, 9, 10] [.inr 0, .inl 0, .inl 1, .inl 2, .inl 3, .inl 4, .inl 5] (va_runV (As := [.ref (q 1)]) (rest := []) ⟨hx, hb, hml, hown, hts⟩ (kX6_find l D cI cJ cD q hq N Tn Ta Rn Ra Rb Rd Rn19 Ra19 Rb19 Rd19 hc) (cwV 1 hts gX8_runsOver_X6_find rfl rfl rfl (by decide +kernel) ⟨(Nat.le_of_ble_eq_true rfl), (Nat.le_of_ble_eq_true rfl)⟩) ⟨gP_blind, va_recv hE.1 hP (ci := 4) (q0 := 3) rfl rfl, fun U hU hW => ⟨rfl, by rw [hU]; exact hP.sub (ws' := (w_1_2_7_8_9_10 q cI cJ cD Tn Ta Rn Ra Rb Rd)) [1, 2, 3, 4, 5, 6] rfl, gEv.warm hW hE⟩⟩ rfl rfl hl.1 rfl (lv_room (Nat.le_of_ble_eq_true rfl)) dX8_runsOver_19 ⟨Nat.zero_le _, Nat.zero_le _⟩) hP hS (gSub rfl) rfl rfl rfl rfl rfl (fun H locs hP hS => ?_)
  refine lv_iconst (v := (0 : Int32)) hx hb dX8_runsOver_22 (by decide) ?_
  refine lv_istore_n (lv' := [(2, .int (0 : Int32)), (0, .ref (q 0)), (1, .int p1)]) hx hb dX8_runsOver_23 rfl hl (by decide) rfl (fun ls hl => ?_)
  refine lv_iconst (v := (0 : Int32)) hx hb dX8_runsOver_24 (by decide) ?_
  refine lv_istore_n (lv' := [(3, .int (0 : Int32)), (2, .int (0 : Int32)), (0, .ref (q 0)), (1, .int p1)]) hx hb dX8_runsOver_25 rfl hl (by decide) rfl (fun ls hl => ?_)
  exact K26 N Rn19 Ra19 Rb19 Rd19 p1 (0 : Int32) (0 : Int32) hf _ _ hP hS _ (lv_sub hl [2, 3, 1, 0] rfl)
set_option maxHeartbeats 4000000 in
set_option maxRecDepth 100000 in
theorem kX8_runsOverx (l : Launch) (hlt : l.stackTraces = false) (D : va_G) (cI cJ cD : ClassId) (sa : Nat → Nat) (q : Nat → Nat) (hq : gInj q) (N : Nat) (Tn : Int32) (Ta : (Nat → Int32)) (Rn : Int32) (Ra : (Nat → Int32)) (Rb : (Nat → Int32)) (Rd : (Nat → Int32)) (p1 : Int32) (e0 : Nat) (Rn9 : Int32) (Ra9 : (Nat → Int32)) (Rb9 : (Nat → Int32)) (Rd9 : (Nat → Int32)) (hf : fX8_runsOver N Tn Ta Rn Ra Rb Rd p1 = some (.inl (e0, Rn9, Ra9, Rb9, Rd9))) : vx_Met l yX8_runsOver wsX8_runsOver rX8_runsOverx (gPx D cI cJ cD sa (gA q [0, 1, 2, 7, 8, 9, 10]) [.ref (q 0), .int p1] (w_0_1_2_7_8_9_10 q cI cJ cD Tn Ta Rn Ra Rb Rd)) (fun _ _ _ _ => False) (gX D (gEn e0) (w_0_1_2_7_8_9_10 q cI cJ cD Tn Ta Rn9 Ra9 Rb9 Rd9) (gA q [0, 1, 2, 7, 8, 9, 10])) 1 6 (gA q [0, 1, 2, 7, 8, 9, 10]) := by
  refine vx_ofW (cc := cX8_runsOver) (maxL := 4) (ret := (some .int)) (by decide +kernel) rfl ?_
  intro p e s m args below meth c s₁ B hml htab hv
  obtain ⟨rfl, hP, hE, hXe⟩ := hv
  have hx := B.exec
  have hb := B.bytes
  have hr := B.returns
  have hts := atoms_spec (ws := wsX8_runsOver) B.pre
  have hown : s.vm.findClass RX8 = some m.cls := findClass_of_methodNamed B.named
  have hlocks := B.notSynchronized
  have hS : va_S (gA q [0, 1, 2, 7, 8, 9, 10]) s.heap s.heap [] := va_S.rf
  have hl := lv_entry ([.ref (q 0), .int p1]) (n := 4) (Nat.le_of_ble_eq_true rfl)
  rw [lg_entry_eq]
  generalize (lg_sl ([.ref (q 0), .int p1]) ++ List.replicate (4 - (lg_sl ([.ref (q 0), .int p1])).length) Slot.unset).toArray = ls at hl ⊢
  have hl : lv_has ls 4 [(0, .ref (q 0)), (1, .int p1)] := hl
  have hk10 := hts (.fieldLink RX8 10 "LyndonText" "text" "LLyndonText$Letters;") (by decide +kernel)
  have hk33 := hts (.fieldLink RX8 33 "LyndonText" "runRow" "LLyndonText$Runs;") (by decide +kernel)
  have huX8 : ∀ w ∈ u_ws RX8 TX8 6, w ∈ wsX8_runsOver := by decide +kernel
  have J70 : ∀ (Rn : Int32) (Ra : (Nat → Int32)) (Rb : (Nat → Int32)) (Rd : (Nat → Int32)) (x2 : Int32), fX8_runsOver_J70 N Tn Ta Rn Ra Rb Rd x2 = some (.inl (e0, Rn9, Ra9, Rb9, Rd9)) → ∀ (H : Heap) (locs : List Loc), va_P D vwCl (w_0_1_2_7_8_9_10 q cI cJ cD Tn Ta Rn Ra Rb Rd) H → va_S (gA q [0, 1, 2, 7, 8, 9, 10]) s.heap H locs → ∀ ls : Array Slot, lv_has ls 4 [(2, .int x2)] → W p l e (headSpec wsX8_runsOver rX8_runsOverx).room s m ([.ref (q 0), .int p1] : List Value).toArray below meth c H locs 0 0 (vx_MQ below (fun _ _ _ _ => False) (gX D (gEn e0) (w_0_1_2_7_8_9_10 q cI cJ cD Tn Ta Rn9 Ra9 Rb9 Rd9) (gA q [0, 1, 2, 7, 8, 9, 10])) ([.ref (q 0), .int p1] : List Value).toArray s 1 6 (gA q [0, 1, 2, 7, 8, 9, 10])) (F0 m 70 ls []) := by
    intro Rn Ra Rb Rd x2 hf H locs hP hS ls hl
    unfold fX8_runsOver_J70 at hf
    refine lv_iload_n hx hb dX8_runsOver_70 rfl (lv_at hl 0 rfl) ?_
    exact nomatch hf
  have K26 : ∀ (n26 : Nat) (Rn : Int32) (Ra : (Nat → Int32)) (Rb : (Nat → Int32)) (Rd : (Nat → Int32)) (x1 : Int32) (x2 : Int32) (x3 : Int32), fX8_runsOver_H26 N Tn Ta n26 Rn Ra Rb Rd x1 x2 x3 = some (.inl (e0, Rn9, Ra9, Rb9, Rd9)) → ∀ (H : Heap) (locs : List Loc), va_P D vwCl (w_0_1_2_7_8_9_10 q cI cJ cD Tn Ta Rn Ra Rb Rd) H → va_S (gA q [0, 1, 2, 7, 8, 9, 10]) s.heap H locs → ∀ ls : Array Slot, lv_has ls 4 [(0, .ref (q 0)), (1, .int x1), (2, .int x2), (3, .int x3)] → W p l e (headSpec wsX8_runsOver rX8_runsOverx).room s m ([.ref (q 0), .int p1] : List Value).toArray below meth c H locs 0 0 (vx_MQ below (fun _ _ _ _ => False) (gX D (gEn e0) (w_0_1_2_7_8_9_10 q cI cJ cD Tn Ta Rn9 Ra9 Rb9 Rd9) (gA q [0, 1, 2, 7, 8, 9, 10])) ([.ref (q 0), .int p1] : List Value).toArray s 1 6 (gA q [0, 1, 2, 7, 8, 9, 10])) (F0 m 26 ls []) := by
    intro n26
    induction n26 with
    | zero =>
      intro Rn Ra Rb Rd x1 x2 x3 hf
      exact nomatch (show (none : Option ((Nat × Int32 × (Nat → Int32) × (Nat → Int32) × (Nat → Int32)) ⊕ (Int32 × Int32 × (Nat → Int32) × (Nat → Int32) × (Nat → Int32)))) = some (.inl (e0, Rn9, Ra9, Rb9, Rd9)) from hf)
    | succ n26 ih26 =>
      have J64 : ∀ (Rn : Int32) (Ra : (Nat → Int32)) (Rb : (Nat → Int32)) (Rd : (Nat → Int32)) (x1 : Int32) (x2 : Int32) (x3 : Int32), fX8_runsOver_J64 N Tn Ta (fX8_runsOver_H26 N Tn Ta n26) Rn Ra Rb Rd x1 x2 x3 = some (.inl (e0, Rn9, Ra9, Rb9, Rd9)) → ∀ (H : Heap) (locs : List Loc), va_P D vwCl (w_0_1_2_7_8_9_10 q cI cJ cD Tn Ta Rn Ra Rb Rd) H → va_S (gA q [0, 1, 2, 7, 8, 9, 10]) s.heap H locs → ∀ ls : Array Slot, lv_has ls 4 [(0, .ref (q 0)), (1, .int x1), (2, .int x2), (3, .int x3)] → W p l e (headSpec wsX8_runsOver rX8_runsOverx).room s m ([.ref (q 0), .int p1] : List Value).toArray below meth c H locs 0 0 (vx_MQ below (fun _ _ _ _ => False) (gX D (gEn e0) (w_0_1_2_7_8_9_10 q cI cJ cD Tn Ta Rn9 Ra9 Rb9 Rd9) (gA q [0, 1, 2, 7, 8, 9, 10])) ([.ref (q 0), .int p1] : List Value).toArray s 1 6 (gA q [0, 1, 2, 7, 8, 9, 10])) (F0 m 64 ls []) := by
        intro Rn Ra Rb Rd x1 x2 x3 hf H locs hP hS ls hl
        unfold fX8_runsOver_J64 at hf
        refine lv_iinc (v := (x3 + 1)) (lv' := [(3, .int (x3 + 1)), (0, .ref (q 0)), (1, .int x1), (2, .int x2)]) hx hb dX8_runsOver_64 hl (k := 3) rfl rfl (by decide) rfl (fun ls hl => ?_)
        refine lv_goto (tgt := 26) hx hb dX8_runsOver_67 (by decide) ?_
        exact ih26 Rn Ra Rb Rd x1 x2 (x3 + 1) hf _ _ hP hS _ (lv_sub hl [1, 2, 3, 0] rfl)
      intro Rn Ra Rb Rd x1 x2 x3 hf H locs hP hS ls hl
      have hf : fX8_runsOver_B26 N Tn Ta (fX8_runsOver_H26 N Tn Ta n26) Rn Ra Rb Rd x1 x2 x3 = some (.inl (e0, Rn9, Ra9, Rb9, Rd9)) := hf
      unfold fX8_runsOver_B26 at hf
      refine lv_iload_n hx hb dX8_runsOver_26 rfl (lv_at hl 3 rfl) ?_
      refine lv_aload_n hx hb dX8_runsOver_27 rfl (lv_at hl 0 rfl) ?_
      refine va_get (D := D) (ci := 6) (v := .ref (q 7)) (C := RX8) (T := TX8) (N := 6) hx hb hts huX8 hown hE.1 hP 0 rfl rfl 3 (by decide) hk33 (fun _ h9 => h9) rfl dX8_runsOver_28 ?_
      obtain ⟨r31, hc, hf⟩ := bn_some hf
      try dsimp only at hf
      refine g_call0 (ws' := (w_0_1_2_7_8_9_10 q cI cJ cD Tn Ta Rn Ra Rb Rd)) (st1 := [.int r31, .int x3]) hq [0, 1, 2, 7, 8, 9, 10] [7] [.inr 0, .inr 1, .inr 2, .inl 0, .inr 4, .inr 5, .inr 6] (va_runV (As := []) (rest := [.int x3]) ⟨hx, hb, hml, hown, hts⟩ (kX6_count l D cI cJ cD q hq N Rn r31 hc) (cwV 0 hts gX8_runsOver_X6_count rfl rfl rfl (by decide +kernel) ⟨(Nat.le_of_ble_eq_true rfl), (Nat.le_of_ble_eq_true rfl)⟩) ⟨gP_blind, va_recv hE.1 hP (ci := 4) (q0 := 3) rfl rfl, fun U hU hW => ⟨rfl, by rw [hU]; exact hP.sub (ws' := (w_7 q cI cJ cD Rn)) [3] rfl, gEv.warm hW hE⟩⟩ rfl rfl hl.1 rfl (lv_room (Nat.le_of_ble_eq_true rfl)) dX8_runsOver_31 ⟨Nat.zero_le _, Nat.zero_le _⟩) hP hS (gSub rfl) rfl rfl rfl rfl rfl (fun H locs hP hS => ?_)
      refine lv_icmp_ge (tgt := 70) hx hb dX8_runsOver_34 (by decide) (fun c_1 => ?_) (fun c_1 => ?_)
      · have hf := (if_pos c_1).symm.trans hf
        exact J70 Rn Ra Rb Rd x2 hf _ _ hP hS _ (lv_sub hl [2] rfl)
      · have hf := (if_neg c_1).symm.trans hf
        refine lv_aload_n hx hb dX8_runsOver_37 rfl (lv_at hl 0 rfl) ?_
        refine va_get (D := D) (ci := 6) (v := .ref (q 7)) (C := RX8) (T := TX8) (N := 6) hx hb hts huX8 hown hE.1 hP 0 rfl rfl 3 (by decide) hk33 (fun _ h9 => h9) rfl dX8_runsOver_38 ?_
        refine lv_iload_n hx hb dX8_runsOver_41 rfl (lv_at hl 3 rfl) ?_
        obtain ⟨r42, hc, hf⟩ := bn_some hf
        try dsimp only at hf
        refine g_call0 (ws' := (w_0_1_2_7_8_9_10 q cI cJ cD Tn Ta Rn Ra Rb Rd)) (st1 := [.int r42]) hq [0, 1, 2, 7, 8, 9, 10] [7, 8] [.inr 0, .inr 1, .inr 2, .inl 0, .inl 1, .inr 5, .inr 6] (va_runV (As := [.int x3]) (rest := []) ⟨hx, hb, hml, hown, hts⟩ (kX6_start l D cI cJ cD q hq N Rn Ra x3 r42 hc) (cwV 1 hts gX8_runsOver_X6_start rfl rfl rfl (by decide +kernel) ⟨(Nat.le_of_ble_eq_true rfl), (Nat.le_of_ble_eq_true rfl)⟩) ⟨gP_blind, va_recv hE.1 hP (ci := 4) (q0 := 3) rfl rfl, fun U hU hW => ⟨rfl, by rw [hU]; exact hP.sub (ws' := (w_7_8 q cI cJ cD Rn Ra)) [3, 4] rfl, gEv.warm hW hE⟩⟩ rfl rfl hl.1 rfl (lv_room (Nat.le_of_ble_eq_true rfl)) dX8_runsOver_42 ⟨Nat.zero_le _, Nat.zero_le _⟩) hP hS (gSub rfl) rfl rfl rfl rfl rfl (fun H locs hP hS => ?_)
        refine lv_iload_n hx hb dX8_runsOver_45 rfl (lv_at hl 1 rfl) ?_
        refine lv_icmp_gt (tgt := 64) hx hb dX8_runsOver_46 (by decide) (fun c_2 => ?_) (fun c_2 => ?_)
        · have hf := (if_pos c_2).symm.trans hf
          exact J64 Rn Ra Rb Rd x1 x2 x3 hf _ _ hP hS _ (lv_sub hl [0, 1, 2, 3] rfl)
        · have hf := (if_neg c_2).symm.trans hf
          refine lv_iload_n hx hb dX8_runsOver_49 rfl (lv_at hl 1 rfl) ?_
          refine lv_aload_n hx hb dX8_runsOver_50 rfl (lv_at hl 0 rfl) ?_
          refine va_get (D := D) (ci := 6) (v := .ref (q 7)) (C := RX8) (T := TX8) (N := 6) hx hb hts huX8 hown hE.1 hP 0 rfl rfl 3 (by decide) hk33 (fun _ h9 => h9) rfl dX8_runsOver_51 ?_
          refine lv_iload_n hx hb dX8_runsOver_54 rfl (lv_at hl 3 rfl) ?_
          obtain ⟨r55, hc, hf⟩ := bn_some hf
          try dsimp only at hf
          refine g_call0 (ws' := (w_0_1_2_7_8_9_10 q cI cJ cD Tn Ta Rn Ra Rb Rd)) (st1 := [.int r55, .int x1]) hq [0, 1, 2, 7, 8, 9, 10] [7, 9] [.inr 0, .inr 1, .inr 2, .inl 0, .inr 4, .inl 1, .inr 6] (va_runV (As := [.int x3]) (rest := [.int x1]) ⟨hx, hb, hml, hown, hts⟩ (kX6_end l D cI cJ cD q hq N Rn Rb x3 r55 hc) (cwV 1 hts gX8_runsOver_X6_end rfl rfl rfl (by decide +kernel) ⟨(Nat.le_of_ble_eq_true rfl), (Nat.le_of_ble_eq_true rfl)⟩) ⟨gP_blind, va_recv hE.1 hP (ci := 4) (q0 := 3) rfl rfl, fun U hU hW => ⟨rfl, by rw [hU]; exact hP.sub (ws' := (w_7_9 q cI cJ cD Rn Rb)) [3, 5] rfl, gEv.warm hW hE⟩⟩ rfl rfl hl.1 rfl (lv_room (Nat.le_of_ble_eq_true rfl)) dX8_runsOver_55 ⟨Nat.zero_le _, Nat.zero_le _⟩) hP hS (gSub rfl) rfl rfl rfl rfl rfl (fun H locs hP hS => ?_)
          refine lv_icmp_ge (tgt := 64) hx hb dX8_runsOver_58 (by decide) (fun c_3 => ?_) (fun c_3 => ?_)
          · have hf := (if_pos c_3).symm.trans hf
            exact J64 Rn Ra Rb Rd x1 x2 x3 hf _ _ hP hS _ (lv_sub hl [0, 1, 2, 3] rfl)
          · have hf := (if_neg c_3).symm.trans hf
            refine lv_iinc (v := (x2 + 1)) (lv' := [(2, .int (x2 + 1)), (0, .ref (q 0)), (1, .int x1), (3, .int x3)]) hx hb dX8_runsOver_61 hl (k := 2) rfl rfl (by decide) rfl (fun ls hl => ?_)
            exact J64 Rn Ra Rb Rd x1 (x2 + 1) x3 hf _ _ hP hS _ (lv_sub hl [1, 2, 0, 3] rfl)
  unfold fX8_runsOver at hf
  refine lv_iload_n hx hb dX8_runsOver_0 rfl (lv_at hl 1 rfl) ?_
  refine lv_aload_n hx hb dX8_runsOver_1 rfl (lv_at hl 0 rfl) ?_
  refine va_get (D := D) (ci := 6) (v := .ref (q 1)) (C := RX8) (T := TX8) (N := 6) hx hb hts huX8 hown hE.1 hP 0 rfl rfl 0 (by decide) hk10 (fun _ h9 => h9) rfl dX8_runsOver_2 ?_
  obtain ⟨r5, hc, hf⟩ := bn_some hf
  try dsimp only at hf
  refine g_call0 (ws' := (w_0_1_2_7_8_9_10 q cI cJ cD Tn Ta Rn Ra Rb Rd)) (st1 := [.int r5, .int p1]) hq [0, 1, 2, 7, 8, 9, 10] [1] [.inr 0, .inl 0, .inr 2, .inr 3, .inr 4, .inr 5, .inr 6] (va_runV (As := []) (rest := [.int p1]) ⟨hx, hb, hml, hown, hts⟩ (kX2_count l D cI cJ cD q hq N Tn r5 hc) (cwV 0 hts gX8_runsOver_X2_count rfl rfl rfl (by decide +kernel) ⟨(Nat.le_of_ble_eq_true rfl), (Nat.le_of_ble_eq_true rfl)⟩) ⟨gP_blind, va_recv hE.1 hP (ci := 2) (q0 := 1) rfl rfl, fun U hU hW => ⟨rfl, by rw [hU]; exact hP.sub (ws' := (w_1 q cI cJ cD Tn)) [1] rfl, gEv.warm hW hE⟩⟩ rfl rfl hl.1 rfl (lv_room (Nat.le_of_ble_eq_true rfl)) dX8_runsOver_5 ⟨Nat.zero_le _, Nat.zero_le _⟩) hP hS (gSub rfl) rfl rfl rfl rfl rfl (fun H locs hP hS => ?_)
  rcases bx_some hf with ⟨e8, hc, hf⟩ | ⟨⟨⟩, hc, hf⟩
  · try dsimp only at hf
    refine g_callX (ws' := (w_0_1_2_7_8_9_10 q cI cJ cD Tn Ta Rn Ra Rb Rd)) hq [0, 1, 2, 7, 8, 9, 10] [] [.inr 0, .inr 1, .inr 2, .inr 3, .inr 4, .inr 5, .inr 6] (vx_runS (As := [.int p1, .int r5]) (rest := []) ⟨hx, hb, hml, hown, hts⟩ (kX8_checkIndexx l hlt D cI cJ cD sa q hq N p1 r5 e8 hc) (va_cwS 2 hts gX8_runsOver_X8_checkIndex rfl rfl rfl (by decide +kernel) ⟨(Nat.le_of_ble_eq_true rfl), (Nat.le_of_ble_eq_true rfl)⟩) ⟨gPx_blind, fun U hU hW => ⟨rfl, by rw [hU]; exact hP.sub (ws' := (w_0none q cI cJ cD)) [] rfl, gEv.warm hW hE, gXe.go hW hS (gMono rfl) hXe hU⟩⟩ rfl rfl hl.1 rfl (lv_room (Nat.le_of_ble_eq_true rfl)) dX8_runsOver_8 ⟨(Nat.le_of_ble_eq_true rfl), (Nat.le_of_ble_eq_true rfl)⟩) hP hS (gSub rfl) rfl rfl rfl rfl (fun ce q9 H locs hP hS hce hcv hcl => ?_)
    cases hf
    exact vx_out (fun x9 hx9 => (htab x9 hx9).elim) hlocks hce hcv hcl (fun t ht hv => ⟨rfl, by rw [ht]; exact hP, hS.F ht⟩) hS.2.2 (Nat.le_of_ble_eq_true rfl) (Nat.le_of_ble_eq_true rfl)
  try dsimp only at hf
  refine g_call0 (ws' := (w_0_1_2_7_8_9_10 q cI cJ cD Tn Ta Rn Ra Rb Rd)) (st1 := []) hq [0, 1, 2, 7, 8, 9, 10] [] [.inr 0, .inr 1, .inr 2, .inr 3, .inr 4, .inr 5, .inr 6] (va_runS (As := [.int p1, .int r5]) (rest := []) ⟨hx, hb, hml, hown, hts⟩ (kX8_checkIndex l D cI cJ cD q hq N p1 r5 hc) (va_cwS 2 hts gX8_runsOver_X8_checkIndex rfl rfl rfl (by decide +kernel) ⟨(Nat.le_of_ble_eq_true rfl), (Nat.le_of_ble_eq_true rfl)⟩) ⟨gP_blind, fun U hU hW => ⟨rfl, by rw [hU]; exact hP.sub (ws' := (w_0none q cI cJ cD)) [] rfl, gEv.warm hW hE⟩⟩ rfl rfl hl.1 rfl (lv_room (Nat.le_of_ble_eq_true rfl)) dX8_runsOver_8 ⟨Nat.zero_le _, Nat.zero_le _⟩) hP hS (gSub rfl) rfl rfl rfl rfl rfl (fun H locs hP hS => ?_)
  refine lv_aload_n hx hb dX8_runsOver_11 rfl (lv_at hl 0 rfl) ?_
  refine va_get (D := D) (ci := 6) (v := .ref (q 7)) (C := RX8) (T := TX8) (N := 6) hx hb hts huX8 hown hE.1 hP 0 rfl rfl 3 (by decide) hk33 (fun _ h9 => h9) rfl dX8_runsOver_12 ?_
  refine lv_aload_n hx hb dX8_runsOver_15 rfl (lv_at hl 0 rfl) ?_
  refine va_get (D := D) (ci := 6) (v := .ref (q 1)) (C := RX8) (T := TX8) (N := 6) hx hb hts huX8 hown hE.1 hP 0 rfl rfl 0 (by decide) hk10 (fun _ h9 => h9) rfl dX8_runsOver_16 ?_
  obtain ⟨⟨Rn19, Ra19, Rb19, Rd19⟩, hc, hf⟩ := bn_some hf
  try dsimp only at hf
  refine g_call0 (ws' := (w_0_1_2_7_8_9_10 q cI cJ cD Tn Ta Rn19 Ra19 Rb19 Rd19)) (st1 := []) hq [0, 1, 2, 7, 8, 9, 10] [1, 2, 7, 8, 9, 10] [.inr 0, .inl 0, .inl 1, .inl 2, .inl 3, .inl 4, .inl 5] (va_runV (As := [.ref (q 1)]) (rest := []) ⟨hx, hb, hml, hown, hts⟩ (kX6_find l D cI cJ cD q hq N Tn Ta Rn Ra Rb Rd Rn19 Ra19 Rb19 Rd19 hc) (cwV 1 hts gX8_runsOver_X6_find rfl rfl rfl (by decide +kernel) ⟨(Nat.le_of_ble_eq_true rfl), (Nat.le_of_ble_eq_true rfl)⟩) ⟨gP_blind, va_recv hE.1 hP (ci := 4) (q0 := 3) rfl rfl, fun U hU hW => ⟨rfl, by rw [hU]; exact hP.sub (ws' := (w_1_2_7_8_9_10 q cI cJ cD Tn Ta Rn Ra Rb Rd)) [1, 2, 3, 4, 5, 6] rfl, gEv.warm hW hE⟩⟩ rfl rfl hl.1 rfl (lv_room (Nat.le_of_ble_eq_true rfl)) dX8_runsOver_19 ⟨Nat.zero_le _, Nat.zero_le _⟩) hP hS (gSub rfl) rfl rfl rfl rfl rfl (fun H locs hP hS => ?_)
  refine lv_iconst (v := (0 : Int32)) hx hb dX8_runsOver_22 (by decide) ?_
  refine lv_istore_n (lv' := [(2, .int (0 : Int32)), (0, .ref (q 0)), (1, .int p1)]) hx hb dX8_runsOver_23 rfl hl (by decide) rfl (fun ls hl => ?_)
  refine lv_iconst (v := (0 : Int32)) hx hb dX8_runsOver_24 (by decide) ?_
  refine lv_istore_n (lv' := [(3, .int (0 : Int32)), (2, .int (0 : Int32)), (0, .ref (q 0)), (1, .int p1)]) hx hb dX8_runsOver_25 rfl hl (by decide) rfl (fun ls hl => ?_)
  exact K26 N Rn19 Ra19 Rb19 Rd19 p1 (0 : Int32) (0 : Int32) hf _ _ hP hS _ (lv_sub hl [2, 3, 1, 0] rfl)
set_option maxHeartbeats 4000000 in
set_option maxRecDepth 100000 in
theorem kX8_exponentsOfRuns (l : Launch) (D : va_G) (cI cJ cD : ClassId) (q : Nat → Nat) (hq : gInj q) (N : Nat) (Tn : Int32) (Ta : (Nat → Int32)) (Rn : Int32) (Ra : (Nat → Int32)) (Rb : (Nat → Int32)) (Rd : (Nat → Int32)) (r0 : UInt64) (Rn9 : Int32) (Ra9 : (Nat → Int32)) (Rb9 : (Nat → Int32)) (Rd9 : (Nat → Int32)) (hf : fX8_exponentsOfRuns N Tn Ta Rn Ra Rb Rd = some (r0, Rn9, Ra9, Rb9, Rd9)) : Met l yX8_exponentsOfRuns wsX8_exponentsOfRuns rX8_exponentsOfRuns (gP D cI cJ cD [.ref (q 0)] (w_0_1_2_7_8_9_10 q cI cJ cD Tn Ta Rn Ra Rb Rd)) (gQ D (some (.double r0)) (w_0_1_2_7_8_9_10 q cI cJ cD Tn Ta Rn9 Ra9 Rb9 Rd9) (gA q [0, 1, 2, 7, 8, 9, 10])) 0 0 (gA q [0, 1, 2, 7, 8, 9, 10]) := by
  refine Met.ofW (cc := cX8_exponentsOfRuns) (maxL := 4) (ret := (some .double)) (by decide +kernel) rfl ?_
  intro p e s m args below meth c s₁ B hml hv
  obtain ⟨rfl, hP, hE⟩ := hv
  have hx := B.exec
  have hb := B.bytes
  have hr := B.returns
  have hts := atoms_spec (ws := wsX8_exponentsOfRuns) B.pre
  have hown : s.vm.findClass RX8 = some m.cls := findClass_of_methodNamed B.named
  have hlocks := B.notSynchronized
  have hS : va_S (gA q [0, 1, 2, 7, 8, 9, 10]) s.heap s.heap [] := va_S.rf
  have hl := lv_entry ([.ref (q 0)]) (n := 4) (Nat.le_of_ble_eq_true rfl)
  rw [lg_entry_eq]
  generalize (lg_sl ([.ref (q 0)]) ++ List.replicate (4 - (lg_sl ([.ref (q 0)])).length) Slot.unset).toArray = ls at hl ⊢
  have hl : lv_has ls 4 [(0, .ref (q 0))] := hl
  have hk33 := hts (.fieldLink RX8 33 "LyndonText" "runRow" "LLyndonText$Runs;") (by decide +kernel)
  have hk10 := hts (.fieldLink RX8 10 "LyndonText" "text" "LLyndonText$Letters;") (by decide +kernel)
  have huX8 : ∀ w ∈ u_ws RX8 TX8 6, w ∈ wsX8_exponentsOfRuns := by decide +kernel
  have J54 : ∀ (Rn : Int32) (Ra : (Nat → Int32)) (Rb : (Nat → Int32)) (Rd : (Nat → Int32)) (x1 : UInt64), fX8_exponentsOfRuns_J54 N Tn Ta Rn Ra Rb Rd x1 = some (r0, Rn9, Ra9, Rb9, Rd9) → ∀ (H : Heap) (locs : List Loc), va_P D vwCl (w_0_1_2_7_8_9_10 q cI cJ cD Tn Ta Rn Ra Rb Rd) H → va_S (gA q [0, 1, 2, 7, 8, 9, 10]) s.heap H locs → ∀ ls : Array Slot, lv_has ls 4 [(1, .double x1)] → W p l e (headSpec wsX8_exponentsOfRuns rX8_exponentsOfRuns).room s m ([.ref (q 0)] : List Value).toArray below meth c H locs 0 0 (MQ below (gQ D (some (.double r0)) (w_0_1_2_7_8_9_10 q cI cJ cD Tn Ta Rn9 Ra9 Rb9 Rd9) (gA q [0, 1, 2, 7, 8, 9, 10])) ([.ref (q 0)] : List Value).toArray s 0 0 (gA q [0, 1, 2, 7, 8, 9, 10])) (F0 m 54 ls []) := by
    intro Rn Ra Rb Rd x1 hf H locs hP hS ls hl
    unfold fX8_exponentsOfRuns_J54 at hf
    refine lv_dload_n hx hb dX8_exponentsOfRuns_54 rfl (lv_at hl 0 rfl) ?_
    cases hf
    exact W.dret hx hb hr (fun t ht hW => ⟨⟨rfl, by rw [ht]; exact hP⟩, hS.F ht⟩) hS.2.2 dX8_exponentsOfRuns_55
  have K15 : ∀ (n15 : Nat) (Rn : Int32) (Ra : (Nat → Int32)) (Rb : (Nat → Int32)) (Rd : (Nat → Int32)) (x1 : UInt64) (x3 : Int32), fX8_exponentsOfRuns_H15 N Tn Ta n15 Rn Ra Rb Rd x1 x3 = some (r0, Rn9, Ra9, Rb9, Rd9) → ∀ (H : Heap) (locs : List Loc), va_P D vwCl (w_0_1_2_7_8_9_10 q cI cJ cD Tn Ta Rn Ra Rb Rd) H → va_S (gA q [0, 1, 2, 7, 8, 9, 10]) s.heap H locs → ∀ ls : Array Slot, lv_has ls 4 [(0, .ref (q 0)), (1, .double x1), (3, .int x3)] → W p l e (headSpec wsX8_exponentsOfRuns rX8_exponentsOfRuns).room s m ([.ref (q 0)] : List Value).toArray below meth c H locs 0 0 (MQ below (gQ D (some (.double r0)) (w_0_1_2_7_8_9_10 q cI cJ cD Tn Ta Rn9 Ra9 Rb9 Rd9) (gA q [0, 1, 2, 7, 8, 9, 10])) ([.ref (q 0)] : List Value).toArray s 0 0 (gA q [0, 1, 2, 7, 8, 9, 10])) (F0 m 15 ls []) := by
    intro n15
    induction n15 with
    | zero =>
      intro Rn Ra Rb Rd x1 x3 hf
      exact nomatch (show (none : Option (UInt64 × Int32 × (Nat → Int32) × (Nat → Int32) × (Nat → Int32))) = some (r0, Rn9, Ra9, Rb9, Rd9) from hf)
    | succ n15 ih15 =>
      intro Rn Ra Rb Rd x1 x3 hf H locs hP hS ls hl
      have hf : fX8_exponentsOfRuns_B15 N Tn Ta (fX8_exponentsOfRuns_H15 N Tn Ta n15) Rn Ra Rb Rd x1 x3 = some (r0, Rn9, Ra9, Rb9, Rd9) := hf
      unfold fX8_exponentsOfRuns_B15 at hf
      refine lv_iload_n hx hb dX8_exponentsOfRuns_15 rfl (lv_at hl 2 rfl) ?_
      refine lv_aload_n hx hb dX8_exponentsOfRuns_16 rfl (lv_at hl 0 rfl) ?_
      refine va_get (D := D) (ci := 6) (v := .ref (q 7)) (C := RX8) (T := TX8) (N := 6) hx hb hts huX8 hown hE.1 hP 0 rfl rfl 3 (by decide) hk33 (fun _ h9 => h9) rfl dX8_exponentsOfRuns_17 ?_
      obtain ⟨r20, hc, hf⟩ := bn_some hf
      try dsimp only at hf
      refine g_call0 (ws' := (w_0_1_2_7_8_9_10 q cI cJ cD Tn Ta Rn Ra Rb Rd)) (st1 := [.int r20, .int x3]) hq [0, 1, 2, 7, 8, 9, 10] [7] [.inr 0, .inr 1, .inr 2, .inl 0, .inr 4, .inr 5, .inr 6] (va_runV (As := []) (rest := [.int x3]) ⟨hx, hb, hml, hown, hts⟩ (kX6_count l D cI cJ cD q hq N Rn r20 hc) (cwV 0 hts gX8_exponentsOfRuns_X6_count rfl rfl rfl (by decide +kernel) ⟨(Nat.le_of_ble_eq_true rfl), (Nat.le_of_ble_eq_true rfl)⟩) ⟨gP_blind, va_recv hE.1 hP (ci := 4) (q0 := 3) rfl rfl, fun U hU hW => ⟨rfl, by rw [hU]; exact hP.sub (ws' := (w_7 q cI cJ cD Rn)) [3] rfl, gEv.warm hW hE⟩⟩ rfl rfl hl.1 rfl (lv_room (Nat.le_of_ble_eq_true rfl)) dX8_exponentsOfRuns_20 ⟨Nat.zero_le _, Nat.zero_le _⟩) hP hS (gSub rfl) rfl rfl rfl rfl rfl (fun H locs hP hS => ?_)
      refine lv_icmp_ge (tgt := 54) hx hb dX8_exponentsOfRuns_23 (by decide) (fun c_1 => ?_) (fun c_1 => ?_)
      · have hf := (if_pos c_1).symm.trans hf
        exact J54 Rn Ra Rb Rd x1 hf _ _ hP hS _ (lv_sub hl [1] rfl)
      · have hf := (if_neg c_1).symm.trans hf
        refine lv_dload_n hx hb dX8_exponentsOfRuns_26 rfl (lv_at hl 1 rfl) ?_
        refine lv_aload_n hx hb dX8_exponentsOfRuns_27 rfl (lv_at hl 0 rfl) ?_
        refine va_get (D := D) (ci := 6) (v := .ref (q 7)) (C := RX8) (T := TX8) (N := 6) hx hb hts huX8 hown hE.1 hP 0 rfl rfl 3 (by decide) hk33 (fun _ h9 => h9) rfl dX8_exponentsOfRuns_28 ?_
        refine lv_iload_n hx hb dX8_exponentsOfRuns_31 rfl (lv_at hl 2 rfl) ?_
        obtain ⟨r32, hc, hf⟩ := bn_some hf
        try dsimp only at hf
        refine g_call0 (ws' := (w_0_1_2_7_8_9_10 q cI cJ cD Tn Ta Rn Ra Rb Rd)) (st1 := [.int r32, .double x1]) hq [0, 1, 2, 7, 8, 9, 10] [7, 8, 9] [.inr 0, .inr 1, .inr 2, .inl 0, .inl 1, .inl 2, .inr 6] (va_runV (As := [.int x3]) (rest := [.double x1]) ⟨hx, hb, hml, hown, hts⟩ (kX6_size l D cI cJ cD q hq N Rn Ra Rb x3 r32 hc) (cwV 1 hts gX8_exponentsOfRuns_X6_size rfl rfl rfl (by decide +kernel) ⟨(Nat.le_of_ble_eq_true rfl), (Nat.le_of_ble_eq_true rfl)⟩) ⟨gP_blind, va_recv hE.1 hP (ci := 4) (q0 := 3) rfl rfl, fun U hU hW => ⟨rfl, by rw [hU]; exact hP.sub (ws' := (w_7_8_9 q cI cJ cD Rn Ra Rb)) [3, 4, 5] rfl, gEv.warm hW hE⟩⟩ rfl rfl hl.1 rfl (lv_room (Nat.le_of_ble_eq_true rfl)) dX8_exponentsOfRuns_32 ⟨Nat.zero_le _, Nat.zero_le _⟩) hP hS (gSub rfl) rfl rfl rfl rfl rfl (fun H locs hP hS => ?_)
        refine lv_aload_n hx hb dX8_exponentsOfRuns_35 rfl (lv_at hl 0 rfl) ?_
        refine va_get (D := D) (ci := 6) (v := .ref (q 7)) (C := RX8) (T := TX8) (N := 6) hx hb hts huX8 hown hE.1 hP 0 rfl rfl 3 (by decide) hk33 (fun _ h9 => h9) rfl dX8_exponentsOfRuns_36 ?_
        refine lv_iload_n hx hb dX8_exponentsOfRuns_39 rfl (lv_at hl 2 rfl) ?_
        obtain ⟨r40, hc, hf⟩ := bn_some hf
        try dsimp only at hf
        refine g_call0 (ws' := (w_0_1_2_7_8_9_10 q cI cJ cD Tn Ta Rn Ra Rb Rd)) (st1 := [.int r40, .int r32, .double x1]) hq [0, 1, 2, 7, 8, 9, 10] [7, 10] [.inr 0, .inr 1, .inr 2, .inl 0, .inr 4, .inr 5, .inl 1] (va_runV (As := [.int x3]) (rest := [.int r32, .double x1]) ⟨hx, hb, hml, hown, hts⟩ (kX6_leastPeriod l D cI cJ cD q hq N Rn Rd x3 r40 hc) (cwV 1 hts gX8_exponentsOfRuns_X6_leastPeriod rfl rfl rfl (by decide +kernel) ⟨(Nat.le_of_ble_eq_true rfl), (Nat.le_of_ble_eq_true rfl)⟩) ⟨gP_blind, va_recv hE.1 hP (ci := 4) (q0 := 3) rfl rfl, fun U hU hW => ⟨rfl, by rw [hU]; exact hP.sub (ws' := (w_7_10 q cI cJ cD Rn Rd)) [3, 6] rfl, gEv.warm hW hE⟩⟩ rfl rfl hl.1 rfl (lv_room (Nat.le_of_ble_eq_true rfl)) dX8_exponentsOfRuns_40 ⟨Nat.zero_le _, Nat.zero_le _⟩) hP hS (gSub rfl) rfl rfl rfl rfl rfl (fun H locs hP hS => ?_)
        obtain ⟨r43, hc, hf⟩ := bn_some hf
        try dsimp only at hf
        refine g_call0 (ws' := (w_0_1_2_7_8_9_10 q cI cJ cD Tn Ta Rn Ra Rb Rd)) (st1 := [.double r43, .double x1]) hq [0, 1, 2, 7, 8, 9, 10] [] [.inr 0, .inr 1, .inr 2, .inr 3, .inr 4, .inr 5, .inr 6] (va_runS (As := [.int r32, .int r40]) (rest := [.double x1]) ⟨hx, hb, hml, hown, hts⟩ (kX8_quotient l D cI cJ cD q hq N r32 r40 r43 hc) (va_cwS 2 hts gX8_exponentsOfRuns_X8_quotient rfl rfl rfl (by decide +kernel) ⟨(Nat.le_of_ble_eq_true rfl), (Nat.le_of_ble_eq_true rfl)⟩) ⟨gP_blind, fun U hU hW => ⟨rfl, by rw [hU]; exact hP.sub (ws' := (w_0none q cI cJ cD)) [] rfl, gEv.warm hW hE⟩⟩ rfl rfl hl.1 rfl (lv_room (Nat.le_of_ble_eq_true rfl)) dX8_exponentsOfRuns_43 ⟨Nat.zero_le _, Nat.zero_le _⟩) hP hS (gSub rfl) rfl rfl rfl rfl rfl (fun H locs hP hS => ?_)
        obtain ⟨g_2, hf⟩ := gd_some hf
        refine lv_dadd hx hb dX8_exponentsOfRuns_46 (nonan_n g_2) ?_
        refine lv_dstore_n (lv' := [(1, .double (FP.dadd x1 r43)), (0, .ref (q 0)), (3, .int x3)]) hx hb dX8_exponentsOfRuns_47 rfl hl (by decide) rfl (fun ls hl => ?_)
        refine lv_iinc (v := (x3 + 1)) (lv' := [(3, .int (x3 + 1)), (1, .double (FP.dadd x1 r43)), (0, .ref (q 0))]) hx hb dX8_exponentsOfRuns_48 hl (k := 2) rfl rfl (by decide) rfl (fun ls hl => ?_)
        refine lv_goto (tgt := 15) hx hb dX8_exponentsOfRuns_51 (by decide) ?_
        exact ih15 Rn Ra Rb Rd (FP.dadd x1 r43) (x3 + 1) hf _ _ hP hS _ (lv_sub hl [2, 1, 0] rfl)
  unfold fX8_exponentsOfRuns at hf
  refine lv_aload_n hx hb dX8_exponentsOfRuns_0 rfl (lv_at hl 0 rfl) ?_
  refine va_get (D := D) (ci := 6) (v := .ref (q 7)) (C := RX8) (T := TX8) (N := 6) hx hb hts huX8 hown hE.1 hP 0 rfl rfl 3 (by decide) hk33 (fun _ h9 => h9) rfl dX8_exponentsOfRuns_1 ?_
  refine lv_aload_n hx hb dX8_exponentsOfRuns_4 rfl (lv_at hl 0 rfl) ?_
  refine va_get (D := D) (ci := 6) (v := .ref (q 1)) (C := RX8) (T := TX8) (N := 6) hx hb hts huX8 hown hE.1 hP 0 rfl rfl 0 (by decide) hk10 (fun _ h9 => h9) rfl dX8_exponentsOfRuns_5 ?_
  obtain ⟨⟨Rn8, Ra8, Rb8, Rd8⟩, hc, hf⟩ := bn_some hf
  try dsimp only at hf
  refine g_call0 (ws' := (w_0_1_2_7_8_9_10 q cI cJ cD Tn Ta Rn8 Ra8 Rb8 Rd8)) (st1 := []) hq [0, 1, 2, 7, 8, 9, 10] [1, 2, 7, 8, 9, 10] [.inr 0, .inl 0, .inl 1, .inl 2, .inl 3, .inl 4, .inl 5] (va_runV (As := [.ref (q 1)]) (rest := []) ⟨hx, hb, hml, hown, hts⟩ (kX6_find l D cI cJ cD q hq N Tn Ta Rn Ra Rb Rd Rn8 Ra8 Rb8 Rd8 hc) (cwV 1 hts gX8_exponentsOfRuns_X6_find rfl rfl rfl (by decide +kernel) ⟨(Nat.le_of_ble_eq_true rfl), (Nat.le_of_ble_eq_true rfl)⟩) ⟨gP_blind, va_recv hE.1 hP (ci := 4) (q0 := 3) rfl rfl, fun U hU hW => ⟨rfl, by rw [hU]; exact hP.sub (ws' := (w_1_2_7_8_9_10 q cI cJ cD Tn Ta Rn Ra Rb Rd)) [1, 2, 3, 4, 5, 6] rfl, gEv.warm hW hE⟩⟩ rfl rfl hl.1 rfl (lv_room (Nat.le_of_ble_eq_true rfl)) dX8_exponentsOfRuns_8 ⟨Nat.zero_le _, Nat.zero_le _⟩) hP hS (gSub rfl) rfl rfl rfl rfl rfl (fun H locs hP hS => ?_)
  refine lv_dconst0 hx hb dX8_exponentsOfRuns_11 ?_
  refine lv_dstore_n (lv' := [(1, .double FP.dconst0), (0, .ref (q 0))]) hx hb dX8_exponentsOfRuns_12 rfl hl (by decide) rfl (fun ls hl => ?_)
  refine lv_iconst (v := (0 : Int32)) hx hb dX8_exponentsOfRuns_13 (by decide) ?_
  refine lv_istore_n (lv' := [(3, .int (0 : Int32)), (1, .double FP.dconst0), (0, .ref (q 0))]) hx hb dX8_exponentsOfRuns_14 rfl hl (by decide) rfl (fun ls hl => ?_)
  exact K15 N Rn8 Ra8 Rb8 Rd8 FP.dconst0 (0 : Int32) hf _ _ hP hS _ (lv_sub hl [2, 1, 0] rfl)
set_option maxHeartbeats 4000000 in
set_option maxRecDepth 100000 in
theorem kX8_squares (l : Launch) (D : va_G) (cI cJ cD : ClassId) (q : Nat → Nat) (hq : gInj q) (N : Nat) (Tn : Int32) (Ta : (Nat → Int32)) (Rn : Int32) (Ra : (Nat → Int32)) (Rb : (Nat → Int32)) (Rd : (Nat → Int32)) (r0 : Int32) (Rn9 : Int32) (Ra9 : (Nat → Int32)) (Rb9 : (Nat → Int32)) (Rd9 : (Nat → Int32)) (hf : fX8_squares N Tn Ta Rn Ra Rb Rd = some (r0, Rn9, Ra9, Rb9, Rd9)) : Met l yX8_squares wsX8_squares rX8_squares (gP D cI cJ cD [.ref (q 0)] (w_0_1_2_7_8_9_10 q cI cJ cD Tn Ta Rn Ra Rb Rd)) (gQ D (some (.int r0)) (w_0_1_2_7_8_9_10 q cI cJ cD Tn Ta Rn9 Ra9 Rb9 Rd9) (gA q [0, 1, 2, 7, 8, 9, 10])) 0 0 (gA q [0, 1, 2, 7, 8, 9, 10]) := by
  refine Met.ofW (cc := cX8_squares) (maxL := 3) (ret := (some .int)) (by decide +kernel) rfl ?_
  intro p e s m args below meth c s₁ B hml hv
  obtain ⟨rfl, hP, hE⟩ := hv
  have hx := B.exec
  have hb := B.bytes
  have hr := B.returns
  have hts := atoms_spec (ws := wsX8_squares) B.pre
  have hown : s.vm.findClass RX8 = some m.cls := findClass_of_methodNamed B.named
  have hlocks := B.notSynchronized
  have hS : va_S (gA q [0, 1, 2, 7, 8, 9, 10]) s.heap s.heap [] := va_S.rf
  have hl := lv_entry ([.ref (q 0)]) (n := 3) (Nat.le_of_ble_eq_true rfl)
  rw [lg_entry_eq]
  generalize (lg_sl ([.ref (q 0)]) ++ List.replicate (3 - (lg_sl ([.ref (q 0)])).length) Slot.unset).toArray = ls at hl ⊢
  have hl : lv_has ls 3 [(0, .ref (q 0))] := hl
  have hk33 := hts (.fieldLink RX8 33 "LyndonText" "runRow" "LLyndonText$Runs;") (by decide +kernel)
  have hk10 := hts (.fieldLink RX8 10 "LyndonText" "text" "LLyndonText$Letters;") (by decide +kernel)
  have huX8 : ∀ w ∈ u_ws RX8 TX8 6, w ∈ wsX8_squares := by decide +kernel
  have J56 : ∀ (Rn : Int32) (Ra : (Nat → Int32)) (Rb : (Nat → Int32)) (Rd : (Nat → Int32)) (x1 : Int32), fX8_squares_J56 N Tn Ta Rn Ra Rb Rd x1 = some (r0, Rn9, Ra9, Rb9, Rd9) → ∀ (H : Heap) (locs : List Loc), va_P D vwCl (w_0_1_2_7_8_9_10 q cI cJ cD Tn Ta Rn Ra Rb Rd) H → va_S (gA q [0, 1, 2, 7, 8, 9, 10]) s.heap H locs → ∀ ls : Array Slot, lv_has ls 3 [(1, .int x1)] → W p l e (headSpec wsX8_squares rX8_squares).room s m ([.ref (q 0)] : List Value).toArray below meth c H locs 0 0 (MQ below (gQ D (some (.int r0)) (w_0_1_2_7_8_9_10 q cI cJ cD Tn Ta Rn9 Ra9 Rb9 Rd9) (gA q [0, 1, 2, 7, 8, 9, 10])) ([.ref (q 0)] : List Value).toArray s 0 0 (gA q [0, 1, 2, 7, 8, 9, 10])) (F0 m 56 ls []) := by
    intro Rn Ra Rb Rd x1 hf H locs hP hS ls hl
    unfold fX8_squares_J56 at hf
    refine lv_iload_n hx hb dX8_squares_56 rfl (lv_at hl 0 rfl) ?_
    cases hf
    exact W.iret hx hb hr (fun t ht hW => ⟨⟨rfl, by rw [ht]; exact hP⟩, hS.F ht⟩) hS.2.2 dX8_squares_57
  have K15 : ∀ (n15 : Nat) (Rn : Int32) (Ra : (Nat → Int32)) (Rb : (Nat → Int32)) (Rd : (Nat → Int32)) (x1 : Int32) (x2 : Int32), fX8_squares_H15 N Tn Ta n15 Rn Ra Rb Rd x1 x2 = some (r0, Rn9, Ra9, Rb9, Rd9) → ∀ (H : Heap) (locs : List Loc), va_P D vwCl (w_0_1_2_7_8_9_10 q cI cJ cD Tn Ta Rn Ra Rb Rd) H → va_S (gA q [0, 1, 2, 7, 8, 9, 10]) s.heap H locs → ∀ ls : Array Slot, lv_has ls 3 [(0, .ref (q 0)), (1, .int x1), (2, .int x2)] → W p l e (headSpec wsX8_squares rX8_squares).room s m ([.ref (q 0)] : List Value).toArray below meth c H locs 0 0 (MQ below (gQ D (some (.int r0)) (w_0_1_2_7_8_9_10 q cI cJ cD Tn Ta Rn9 Ra9 Rb9 Rd9) (gA q [0, 1, 2, 7, 8, 9, 10])) ([.ref (q 0)] : List Value).toArray s 0 0 (gA q [0, 1, 2, 7, 8, 9, 10])) (F0 m 15 ls []) := by
    intro n15
    induction n15 with
    | zero =>
      intro Rn Ra Rb Rd x1 x2 hf
      exact nomatch (show (none : Option (Int32 × Int32 × (Nat → Int32) × (Nat → Int32) × (Nat → Int32))) = some (r0, Rn9, Ra9, Rb9, Rd9) from hf)
    | succ n15 ih15 =>
      intro Rn Ra Rb Rd x1 x2 hf H locs hP hS ls hl
      have hf : fX8_squares_B15 N Tn Ta (fX8_squares_H15 N Tn Ta n15) Rn Ra Rb Rd x1 x2 = some (r0, Rn9, Ra9, Rb9, Rd9) := hf
      unfold fX8_squares_B15 at hf
      refine lv_iload_n hx hb dX8_squares_15 rfl (lv_at hl 2 rfl) ?_
      refine lv_aload_n hx hb dX8_squares_16 rfl (lv_at hl 0 rfl) ?_
      refine va_get (D := D) (ci := 6) (v := .ref (q 7)) (C := RX8) (T := TX8) (N := 6) hx hb hts huX8 hown hE.1 hP 0 rfl rfl 3 (by decide) hk33 (fun _ h9 => h9) rfl dX8_squares_17 ?_
      obtain ⟨r20, hc, hf⟩ := bn_some hf
      try dsimp only at hf
      refine g_call0 (ws' := (w_0_1_2_7_8_9_10 q cI cJ cD Tn Ta Rn Ra Rb Rd)) (st1 := [.int r20, .int x2]) hq [0, 1, 2, 7, 8, 9, 10] [7] [.inr 0, .inr 1, .inr 2, .inl 0, .inr 4, .inr 5, .inr 6] (va_runV (As := []) (rest := [.int x2]) ⟨hx, hb, hml, hown, hts⟩ (kX6_count l D cI cJ cD q hq N Rn r20 hc) (cwV 0 hts gX8_squares_X6_count rfl rfl rfl (by decide +kernel) ⟨(Nat.le_of_ble_eq_true rfl), (Nat.le_of_ble_eq_true rfl)⟩) ⟨gP_blind, va_recv hE.1 hP (ci := 4) (q0 := 3) rfl rfl, fun U hU hW => ⟨rfl, by rw [hU]; exact hP.sub (ws' := (w_7 q cI cJ cD Rn)) [3] rfl, gEv.warm hW hE⟩⟩ rfl rfl hl.1 rfl (lv_room (Nat.le_of_ble_eq_true rfl)) dX8_squares_20 ⟨Nat.zero_le _, Nat.zero_le _⟩) hP hS (gSub rfl) rfl rfl rfl rfl rfl (fun H locs hP hS => ?_)
      refine lv_icmp_ge (tgt := 56) hx hb dX8_squares_23 (by decide) (fun c_1 => ?_) (fun c_1 => ?_)
      · have hf := (if_pos c_1).symm.trans hf
        exact J56 Rn Ra Rb Rd x1 hf _ _ hP hS _ (lv_sub hl [1] rfl)
      · have hf := (if_neg c_1).symm.trans hf
        refine lv_iload_n hx hb dX8_squares_26 rfl (lv_at hl 1 rfl) ?_
        refine lv_aload_n hx hb dX8_squares_27 rfl (lv_at hl 0 rfl) ?_
        refine va_get (D := D) (ci := 6) (v := .ref (q 7)) (C := RX8) (T := TX8) (N := 6) hx hb hts huX8 hown hE.1 hP 0 rfl rfl 3 (by decide) hk33 (fun _ h9 => h9) rfl dX8_squares_28 ?_
        refine lv_iload_n hx hb dX8_squares_31 rfl (lv_at hl 2 rfl) ?_
        obtain ⟨r32, hc, hf⟩ := bn_some hf
        try dsimp only at hf
        refine g_call0 (ws' := (w_0_1_2_7_8_9_10 q cI cJ cD Tn Ta Rn Ra Rb Rd)) (st1 := [.int r32, .int x1]) hq [0, 1, 2, 7, 8, 9, 10] [7, 8, 9] [.inr 0, .inr 1, .inr 2, .inl 0, .inl 1, .inl 2, .inr 6] (va_runV (As := [.int x2]) (rest := [.int x1]) ⟨hx, hb, hml, hown, hts⟩ (kX6_size l D cI cJ cD q hq N Rn Ra Rb x2 r32 hc) (cwV 1 hts gX8_squares_X6_size rfl rfl rfl (by decide +kernel) ⟨(Nat.le_of_ble_eq_true rfl), (Nat.le_of_ble_eq_true rfl)⟩) ⟨gP_blind, va_recv hE.1 hP (ci := 4) (q0 := 3) rfl rfl, fun U hU hW => ⟨rfl, by rw [hU]; exact hP.sub (ws' := (w_7_8_9 q cI cJ cD Rn Ra Rb)) [3, 4, 5] rfl, gEv.warm hW hE⟩⟩ rfl rfl hl.1 rfl (lv_room (Nat.le_of_ble_eq_true rfl)) dX8_squares_32 ⟨Nat.zero_le _, Nat.zero_le _⟩) hP hS (gSub rfl) rfl rfl rfl rfl rfl (fun H locs hP hS => ?_)
        refine lv_iconst (v := (2 : Int32)) hx hb dX8_squares_35 (by decide) ?_
        refine lv_aload_n hx hb dX8_squares_36 rfl (lv_at hl 0 rfl) ?_
        refine va_get (D := D) (ci := 6) (v := .ref (q 7)) (C := RX8) (T := TX8) (N := 6) hx hb hts huX8 hown hE.1 hP 0 rfl rfl 3 (by decide) hk33 (fun _ h9 => h9) rfl dX8_squares_37 ?_
        refine lv_iload_n hx hb dX8_squares_40 rfl (lv_at hl 2 rfl) ?_
        obtain ⟨r41, hc, hf⟩ := bn_some hf
        try dsimp only at hf
        refine g_call0 (ws' := (w_0_1_2_7_8_9_10 q cI cJ cD Tn Ta Rn Ra Rb Rd)) (st1 := [.int r41, .int (2 : Int32), .int r32, .int x1]) hq [0, 1, 2, 7, 8, 9, 10] [7, 10] [.inr 0, .inr 1, .inr 2, .inl 0, .inr 4, .inr 5, .inl 1] (va_runV (As := [.int x2]) (rest := [.int (2 : Int32), .int r32, .int x1]) ⟨hx, hb, hml, hown, hts⟩ (kX6_leastPeriod l D cI cJ cD q hq N Rn Rd x2 r41 hc) (cwV 1 hts gX8_squares_X6_leastPeriod rfl rfl rfl (by decide +kernel) ⟨(Nat.le_of_ble_eq_true rfl), (Nat.le_of_ble_eq_true rfl)⟩) ⟨gP_blind, va_recv hE.1 hP (ci := 4) (q0 := 3) rfl rfl, fun U hU hW => ⟨rfl, by rw [hU]; exact hP.sub (ws' := (w_7_10 q cI cJ cD Rn Rd)) [3, 6] rfl, gEv.warm hW hE⟩⟩ rfl rfl hl.1 rfl (lv_room (Nat.le_of_ble_eq_true rfl)) dX8_squares_41 ⟨Nat.zero_le _, Nat.zero_le _⟩) hP hS (gSub rfl) rfl rfl rfl rfl rfl (fun H locs hP hS => ?_)
        refine lv_imul hx hb dX8_squares_44 ?_
        refine lv_isub hx hb dX8_squares_45 ?_
        refine lv_iconst (v := (1 : Int32)) hx hb dX8_squares_46 (by decide) ?_
        refine lv_iadd hx hb dX8_squares_47 ?_
        refine lv_iadd hx hb dX8_squares_48 ?_
        refine lv_istore_n (lv' := [(1, .int (x1 + ((r32 - ((2 : Int32) * r41)) + (1 : Int32)))), (0, .ref (q 0)), (2, .int x2)]) hx hb dX8_squares_49 rfl hl (by decide) rfl (fun ls hl => ?_)
        refine lv_iinc (v := (x2 + 1)) (lv' := [(2, .int (x2 + 1)), (1, .int (x1 + ((r32 - ((2 : Int32) * r41)) + (1 : Int32)))), (0, .ref (q 0))]) hx hb dX8_squares_50 hl (k := 2) rfl rfl (by decide) rfl (fun ls hl => ?_)
        refine lv_goto (tgt := 15) hx hb dX8_squares_53 (by decide) ?_
        exact ih15 Rn Ra Rb Rd (x1 + ((r32 - ((2 : Int32) * r41)) + (1 : Int32))) (x2 + 1) hf _ _ hP hS _ (lv_sub hl [2, 1, 0] rfl)
  unfold fX8_squares at hf
  refine lv_aload_n hx hb dX8_squares_0 rfl (lv_at hl 0 rfl) ?_
  refine va_get (D := D) (ci := 6) (v := .ref (q 7)) (C := RX8) (T := TX8) (N := 6) hx hb hts huX8 hown hE.1 hP 0 rfl rfl 3 (by decide) hk33 (fun _ h9 => h9) rfl dX8_squares_1 ?_
  refine lv_aload_n hx hb dX8_squares_4 rfl (lv_at hl 0 rfl) ?_
  refine va_get (D := D) (ci := 6) (v := .ref (q 1)) (C := RX8) (T := TX8) (N := 6) hx hb hts huX8 hown hE.1 hP 0 rfl rfl 0 (by decide) hk10 (fun _ h9 => h9) rfl dX8_squares_5 ?_
  obtain ⟨⟨Rn8, Ra8, Rb8, Rd8⟩, hc, hf⟩ := bn_some hf
  try dsimp only at hf
  refine g_call0 (ws' := (w_0_1_2_7_8_9_10 q cI cJ cD Tn Ta Rn8 Ra8 Rb8 Rd8)) (st1 := []) hq [0, 1, 2, 7, 8, 9, 10] [1, 2, 7, 8, 9, 10] [.inr 0, .inl 0, .inl 1, .inl 2, .inl 3, .inl 4, .inl 5] (va_runV (As := [.ref (q 1)]) (rest := []) ⟨hx, hb, hml, hown, hts⟩ (kX6_find l D cI cJ cD q hq N Tn Ta Rn Ra Rb Rd Rn8 Ra8 Rb8 Rd8 hc) (cwV 1 hts gX8_squares_X6_find rfl rfl rfl (by decide +kernel) ⟨(Nat.le_of_ble_eq_true rfl), (Nat.le_of_ble_eq_true rfl)⟩) ⟨gP_blind, va_recv hE.1 hP (ci := 4) (q0 := 3) rfl rfl, fun U hU hW => ⟨rfl, by rw [hU]; exact hP.sub (ws' := (w_1_2_7_8_9_10 q cI cJ cD Tn Ta Rn Ra Rb Rd)) [1, 2, 3, 4, 5, 6] rfl, gEv.warm hW hE⟩⟩ rfl rfl hl.1 rfl (lv_room (Nat.le_of_ble_eq_true rfl)) dX8_squares_8 ⟨Nat.zero_le _, Nat.zero_le _⟩) hP hS (gSub rfl) rfl rfl rfl rfl rfl (fun H locs hP hS => ?_)
  refine lv_iconst (v := (0 : Int32)) hx hb dX8_squares_11 (by decide) ?_
  refine lv_istore_n (lv' := [(1, .int (0 : Int32)), (0, .ref (q 0))]) hx hb dX8_squares_12 rfl hl (by decide) rfl (fun ls hl => ?_)
  refine lv_iconst (v := (0 : Int32)) hx hb dX8_squares_13 (by decide) ?_
  refine lv_istore_n (lv' := [(2, .int (0 : Int32)), (1, .int (0 : Int32)), (0, .ref (q 0))]) hx hb dX8_squares_14 rfl hl (by decide) rfl (fun ls hl => ?_)
  exact K15 N Rn8 Ra8 Rb8 Rd8 (0 : Int32) (0 : Int32) hf _ _ hP hS _ (lv_sub hl [2, 1, 0] rfl)
set_option maxHeartbeats 4000000 in
set_option maxRecDepth 100000 in
theorem kX8_suffixAt (l : Launch) (D : va_G) (cI cJ cD : ClassId) (q : Nat → Nat) (hq : gInj q) (N : Nat) (Tn : Int32) (Ta : (Nat → Int32)) (Ua : (Nat → Int32)) (p1 : Int32) (r0 : Int32) (Ua9 : (Nat → Int32)) (hf : fX8_suffixAt N Tn Ta Ua p1 = some (.inr (r0, Ua9))) : Met l yX8_suffixAt wsX8_suffixAt rX8_suffixAt (gP D cI cJ cD [.ref (q 0), .int p1] (w_0_1_2_11_12 q cI cJ cD Tn Ta Ua)) (gQ D (some (.int r0)) (w_0_1_2_11_12 q cI cJ cD Tn Ta Ua9) (gA q [0, 1, 2, 11, 12])) 0 0 (gA q [0, 1, 2, 11, 12]) := by
  refine Met.ofW (cc := cX8_suffixAt) (maxL := 3) (ret := (some .int)) (by decide +kernel) rfl ?_
  intro p e s m args below meth c s₁ B hml hv
  obtain ⟨rfl, hP, hE⟩ := hv
  have hx := B.exec
  have hb := B.bytes
  have hr := B.returns
  have hts := atoms_spec (ws := wsX8_suffixAt) B.pre
  have hown : s.vm.findClass RX8 = some m.cls := findClass_of_methodNamed B.named
  have hlocks := B.notSynchronized
  have hS : va_S (gA q [0, 1, 2, 11, 12]) s.heap s.heap [] := va_S.rf
  have hl := lv_entry ([.ref (q 0), .int p1]) (n := 3) (Nat.le_of_ble_eq_true rfl)
  rw [lg_entry_eq]
  generalize (lg_sl ([.ref (q 0), .int p1]) ++ List.replicate (3 - (lg_sl ([.ref (q 0), .int p1])).length) Slot.unset).toArray = ls at hl ⊢
  have hl : lv_has ls 3 [(0, .ref (q 0)), (1, .int p1)] := hl
  have hk10 := hts (.fieldLink RX8 10 "LyndonText" "text" "LLyndonText$Letters;") (by decide +kernel)
  have hk40 := hts (.fieldLink RX8 40 "LyndonText" "suffixRow" "LLyndonText$Suffixes;") (by decide +kernel)
  have huX8 : ∀ w ∈ u_ws RX8 TX8 6, w ∈ wsX8_suffixAt := by decide +kernel
  have J55 : ∀ (Ua : (Nat → Int32)) (x2 : Int32), fX8_suffixAt_J55 N Tn Ta Ua x2 = some (.inr (r0, Ua9)) → ∀ (H : Heap) (locs : List Loc), va_P D vwCl (w_0_1_2_11_12 q cI cJ cD Tn Ta Ua) H → va_S (gA q [0, 1, 2, 11, 12]) s.heap H locs → ∀ ls : Array Slot, lv_has ls 3 [(2, .int x2)] → W p l e (headSpec wsX8_suffixAt rX8_suffixAt).room s m ([.ref (q 0), .int p1] : List Value).toArray below meth c H locs 0 0 (MQ below (gQ D (some (.int r0)) (w_0_1_2_11_12 q cI cJ cD Tn Ta Ua9) (gA q [0, 1, 2, 11, 12])) ([.ref (q 0), .int p1] : List Value).toArray s 0 0 (gA q [0, 1, 2, 11, 12])) (F0 m 55 ls []) := by
    intro Ua x2 hf H locs hP hS ls hl
    unfold fX8_suffixAt_J55 at hf
    refine lv_iload_n hx hb dX8_suffixAt_55 rfl (lv_at hl 0 rfl) ?_
    cases hf
    exact W.iret hx hb hr (fun t ht hW => ⟨⟨rfl, by rw [ht]; exact hP⟩, hS.F ht⟩) hS.2.2 dX8_suffixAt_56
  have K24 : ∀ (n24 : Nat) (Ua : (Nat → Int32)) (x1 : Int32) (x2 : Int32), fX8_suffixAt_H24 N Tn Ta n24 Ua x1 x2 = some (.inr (r0, Ua9)) → ∀ (H : Heap) (locs : List Loc), va_P D vwCl (w_0_1_2_11_12 q cI cJ cD Tn Ta Ua) H → va_S (gA q [0, 1, 2, 11, 12]) s.heap H locs → ∀ ls : Array Slot, lv_has ls 3 [(0, .ref (q 0)), (1, .int x1), (2, .int x2)] → W p l e (headSpec wsX8_suffixAt rX8_suffixAt).room s m ([.ref (q 0), .int p1] : List Value).toArray below meth c H locs 0 0 (MQ below (gQ D (some (.int r0)) (w_0_1_2_11_12 q cI cJ cD Tn Ta Ua9) (gA q [0, 1, 2, 11, 12])) ([.ref (q 0), .int p1] : List Value).toArray s 0 0 (gA q [0, 1, 2, 11, 12])) (F0 m 24 ls []) := by
    intro n24
    induction n24 with
    | zero =>
      intro Ua x1 x2 hf
      exact nomatch (show (none : Option ((Nat × (Nat → Int32)) ⊕ (Int32 × (Nat → Int32)))) = some (.inr (r0, Ua9)) from hf)
    | succ n24 ih24 =>
      intro Ua x1 x2 hf H locs hP hS ls hl
      have hf : fX8_suffixAt_B24 N Tn Ta (fX8_suffixAt_H24 N Tn Ta n24) Ua x1 x2 = some (.inr (r0, Ua9)) := hf
      unfold fX8_suffixAt_B24 at hf
      refine lv_iload_n hx hb dX8_suffixAt_24 rfl (lv_at hl 2 rfl) ?_
      refine lv_aload_n hx hb dX8_suffixAt_25 rfl (lv_at hl 0 rfl) ?_
      refine va_get (D := D) (ci := 6) (v := .ref (q 1)) (C := RX8) (T := TX8) (N := 6) hx hb hts huX8 hown hE.1 hP 0 rfl rfl 0 (by decide) hk10 (fun _ h9 => h9) rfl dX8_suffixAt_26 ?_
      obtain ⟨r29, hc, hf⟩ := bn_some hf
      try dsimp only at hf
      refine g_call0 (ws' := (w_0_1_2_11_12 q cI cJ cD Tn Ta Ua)) (st1 := [.int r29, .int x2]) hq [0, 1, 2, 11, 12] [1] [.inr 0, .inl 0, .inr 2, .inr 3, .inr 4] (va_runV (As := []) (rest := [.int x2]) ⟨hx, hb, hml, hown, hts⟩ (kX2_count l D cI cJ cD q hq N Tn r29 hc) (cwV 0 hts gX8_suffixAt_X2_count rfl rfl rfl (by decide +kernel) ⟨(Nat.le_of_ble_eq_true rfl), (Nat.le_of_ble_eq_true rfl)⟩) ⟨gP_blind, va_recv hE.1 hP (ci := 2) (q0 := 1) rfl rfl, fun U hU hW => ⟨rfl, by rw [hU]; exact hP.sub (ws' := (w_1 q cI cJ cD Tn)) [1] rfl, gEv.warm hW hE⟩⟩ rfl rfl hl.1 rfl (lv_room (Nat.le_of_ble_eq_true rfl)) dX8_suffixAt_29 ⟨Nat.zero_le _, Nat.zero_le _⟩) hP hS (gSub rfl) rfl rfl rfl rfl rfl (fun H locs hP hS => ?_)
      refine lv_iconst (v := (1 : Int32)) hx hb dX8_suffixAt_32 (by decide) ?_
      refine lv_isub hx hb dX8_suffixAt_33 ?_
      refine lv_icmp_ge (tgt := 55) hx hb dX8_suffixAt_34 (by decide) (fun c_1 => ?_) (fun c_1 => ?_)
      · have hf := (if_pos c_1).symm.trans hf
        exact J55 Ua x2 hf _ _ hP hS _ (lv_sub hl [2] rfl)
      · have hf := (if_neg c_1).symm.trans hf
        refine lv_aload_n hx hb dX8_suffixAt_37 rfl (lv_at hl 0 rfl) ?_
        refine va_get (D := D) (ci := 6) (v := .ref (q 11)) (C := RX8) (T := TX8) (N := 6) hx hb hts huX8 hown hE.1 hP 0 rfl rfl 4 (by decide) hk40 (fun _ h9 => h9) rfl dX8_suffixAt_38 ?_
        refine lv_iload_n hx hb dX8_suffixAt_41 rfl (lv_at hl 2 rfl) ?_
        obtain ⟨r42, hc, hf⟩ := bn_some hf
        try dsimp only at hf
        refine g_call0 (ws' := (w_0_1_2_11_12 q cI cJ cD Tn Ta Ua)) (st1 := [.int r42]) hq [0, 1, 2, 11, 12] [11, 12] [.inr 0, .inr 1, .inr 2, .inl 0, .inl 1] (va_runV (As := [.int x2]) (rest := []) ⟨hx, hb, hml, hown, hts⟩ (kX7_rank l D cI cJ cD q hq N Ua x2 r42 hc) (cwV 1 hts gX8_suffixAt_X7_rank rfl rfl rfl (by decide +kernel) ⟨(Nat.le_of_ble_eq_true rfl), (Nat.le_of_ble_eq_true rfl)⟩) ⟨gP_blind, va_recv hE.1 hP (ci := 5) (q0 := 3) rfl rfl, fun U hU hW => ⟨rfl, by rw [hU]; exact hP.sub (ws' := (w_11_12 q cI cJ cD Ua)) [3, 4] rfl, gEv.warm hW hE⟩⟩ rfl rfl hl.1 rfl (lv_room (Nat.le_of_ble_eq_true rfl)) dX8_suffixAt_42 ⟨Nat.zero_le _, Nat.zero_le _⟩) hP hS (gSub rfl) rfl rfl rfl rfl rfl (fun H locs hP hS => ?_)
        refine lv_iload_n hx hb dX8_suffixAt_45 rfl (lv_at hl 1 rfl) ?_
        refine lv_icmp_eq (tgt := 55) hx hb dX8_suffixAt_46 (by decide) (fun c_2 => ?_) (fun c_2 => ?_)
        · have hf := (if_pos c_2).symm.trans hf
          exact J55 Ua x2 hf _ _ hP hS _ (lv_sub hl [2] rfl)
        · have hf := (if_neg c_2).symm.trans hf
          refine lv_iinc (v := (x2 + 1)) (lv' := [(2, .int (x2 + 1)), (0, .ref (q 0)), (1, .int x1)]) hx hb dX8_suffixAt_49 hl (k := 2) rfl rfl (by decide) rfl (fun ls hl => ?_)
          refine lv_goto (tgt := 24) hx hb dX8_suffixAt_52 (by decide) ?_
          exact ih24 Ua x1 (x2 + 1) hf _ _ hP hS _ (lv_sub hl [1, 2, 0] rfl)
  unfold fX8_suffixAt at hf
  refine lv_iload_n hx hb dX8_suffixAt_0 rfl (lv_at hl 1 rfl) ?_
  refine lv_aload_n hx hb dX8_suffixAt_1 rfl (lv_at hl 0 rfl) ?_
  refine va_get (D := D) (ci := 6) (v := .ref (q 1)) (C := RX8) (T := TX8) (N := 6) hx hb hts huX8 hown hE.1 hP 0 rfl rfl 0 (by decide) hk10 (fun _ h9 => h9) rfl dX8_suffixAt_2 ?_
  obtain ⟨r5, hc, hf⟩ := bn_some hf
  try dsimp only at hf
  refine g_call0 (ws' := (w_0_1_2_11_12 q cI cJ cD Tn Ta Ua)) (st1 := [.int r5, .int p1]) hq [0, 1, 2, 11, 12] [1] [.inr 0, .inl 0, .inr 2, .inr 3, .inr 4] (va_runV (As := []) (rest := [.int p1]) ⟨hx, hb, hml, hown, hts⟩ (kX2_count l D cI cJ cD q hq N Tn r5 hc) (cwV 0 hts gX8_suffixAt_X2_count rfl rfl rfl (by decide +kernel) ⟨(Nat.le_of_ble_eq_true rfl), (Nat.le_of_ble_eq_true rfl)⟩) ⟨gP_blind, va_recv hE.1 hP (ci := 2) (q0 := 1) rfl rfl, fun U hU hW => ⟨rfl, by rw [hU]; exact hP.sub (ws' := (w_1 q cI cJ cD Tn)) [1] rfl, gEv.warm hW hE⟩⟩ rfl rfl hl.1 rfl (lv_room (Nat.le_of_ble_eq_true rfl)) dX8_suffixAt_5 ⟨Nat.zero_le _, Nat.zero_le _⟩) hP hS (gSub rfl) rfl rfl rfl rfl rfl (fun H locs hP hS => ?_)
  rcases bx_some hf with ⟨e8, hc, hf⟩ | ⟨⟨⟩, hc, hf⟩
  · exact nomatch hf
  try dsimp only at hf
  refine g_call0 (ws' := (w_0_1_2_11_12 q cI cJ cD Tn Ta Ua)) (st1 := []) hq [0, 1, 2, 11, 12] [] [.inr 0, .inr 1, .inr 2, .inr 3, .inr 4] (va_runS (As := [.int p1, .int r5]) (rest := []) ⟨hx, hb, hml, hown, hts⟩ (kX8_checkIndex l D cI cJ cD q hq N p1 r5 hc) (va_cwS 2 hts gX8_suffixAt_X8_checkIndex rfl rfl rfl (by decide +kernel) ⟨(Nat.le_of_ble_eq_true rfl), (Nat.le_of_ble_eq_true rfl)⟩) ⟨gP_blind, fun U hU hW => ⟨rfl, by rw [hU]; exact hP.sub (ws' := (w_0none q cI cJ cD)) [] rfl, gEv.warm hW hE⟩⟩ rfl rfl hl.1 rfl (lv_room (Nat.le_of_ble_eq_true rfl)) dX8_suffixAt_8 ⟨Nat.zero_le _, Nat.zero_le _⟩) hP hS (gSub rfl) rfl rfl rfl rfl rfl (fun H locs hP hS => ?_)
  refine lv_aload_n hx hb dX8_suffixAt_11 rfl (lv_at hl 0 rfl) ?_
  refine va_get (D := D) (ci := 6) (v := .ref (q 11)) (C := RX8) (T := TX8) (N := 6) hx hb hts huX8 hown hE.1 hP 0 rfl rfl 4 (by decide) hk40 (fun _ h9 => h9) rfl dX8_suffixAt_12 ?_
  refine lv_aload_n hx hb dX8_suffixAt_15 rfl (lv_at hl 0 rfl) ?_
  refine va_get (D := D) (ci := 6) (v := .ref (q 1)) (C := RX8) (T := TX8) (N := 6) hx hb hts huX8 hown hE.1 hP 0 rfl rfl 0 (by decide) hk10 (fun _ h9 => h9) rfl dX8_suffixAt_16 ?_
  obtain ⟨Ua19, hc, hf⟩ := bn_some hf
  try dsimp only at hf
  refine g_call0 (ws' := (w_0_1_2_11_12 q cI cJ cD Tn Ta Ua19)) (st1 := []) hq [0, 1, 2, 11, 12] [1, 2, 11, 12] [.inr 0, .inl 0, .inl 1, .inl 2, .inl 3] (va_runV (As := [.ref (q 1)]) (rest := []) ⟨hx, hb, hml, hown, hts⟩ (kX7_find l D cI cJ cD q hq N Tn Ta Ua Ua19 hc) (cwV 1 hts gX8_suffixAt_X7_find rfl rfl rfl (by decide +kernel) ⟨(Nat.le_of_ble_eq_true rfl), (Nat.le_of_ble_eq_true rfl)⟩) ⟨gP_blind, va_recv hE.1 hP (ci := 5) (q0 := 3) rfl rfl, fun U hU hW => ⟨rfl, by rw [hU]; exact hP.sub (ws' := (w_1_2_11_12 q cI cJ cD Tn Ta Ua)) [1, 2, 3, 4] rfl, gEv.warm hW hE⟩⟩ rfl rfl hl.1 rfl (lv_room (Nat.le_of_ble_eq_true rfl)) dX8_suffixAt_19 ⟨Nat.zero_le _, Nat.zero_le _⟩) hP hS (gSub rfl) rfl rfl rfl rfl rfl (fun H locs hP hS => ?_)
  refine lv_iconst (v := (0 : Int32)) hx hb dX8_suffixAt_22 (by decide) ?_
  refine lv_istore_n (lv' := [(2, .int (0 : Int32)), (0, .ref (q 0)), (1, .int p1)]) hx hb dX8_suffixAt_23 rfl hl (by decide) rfl (fun ls hl => ?_)
  exact K24 N Ua19 p1 (0 : Int32) hf _ _ hP hS _ (lv_sub hl [1, 2, 0] rfl)
set_option maxHeartbeats 4000000 in
set_option maxRecDepth 100000 in
theorem kX8_suffixAtx (l : Launch) (hlt : l.stackTraces = false) (D : va_G) (cI cJ cD : ClassId) (sa : Nat → Nat) (q : Nat → Nat) (hq : gInj q) (N : Nat) (Tn : Int32) (Ta : (Nat → Int32)) (Ua : (Nat → Int32)) (p1 : Int32) (e0 : Nat) (Ua9 : (Nat → Int32)) (hf : fX8_suffixAt N Tn Ta Ua p1 = some (.inl (e0, Ua9))) : vx_Met l yX8_suffixAt wsX8_suffixAt rX8_suffixAtx (gPx D cI cJ cD sa (gA q [0, 1, 2, 11, 12]) [.ref (q 0), .int p1] (w_0_1_2_11_12 q cI cJ cD Tn Ta Ua)) (fun _ _ _ _ => False) (gX D (gEn e0) (w_0_1_2_11_12 q cI cJ cD Tn Ta Ua9) (gA q [0, 1, 2, 11, 12])) 1 6 (gA q [0, 1, 2, 11, 12]) := by
  refine vx_ofW (cc := cX8_suffixAt) (maxL := 3) (ret := (some .int)) (by decide +kernel) rfl ?_
  intro p e s m args below meth c s₁ B hml htab hv
  obtain ⟨rfl, hP, hE, hXe⟩ := hv
  have hx := B.exec
  have hb := B.bytes
  have hr := B.returns
  have hts := atoms_spec (ws := wsX8_suffixAt) B.pre
  have hown : s.vm.findClass RX8 = some m.cls := findClass_of_methodNamed B.named
  have hlocks := B.notSynchronized
  have hS : va_S (gA q [0, 1, 2, 11, 12]) s.heap s.heap [] := va_S.rf
  have hl := lv_entry ([.ref (q 0), .int p1]) (n := 3) (Nat.le_of_ble_eq_true rfl)
  rw [lg_entry_eq]
  generalize (lg_sl ([.ref (q 0), .int p1]) ++ List.replicate (3 - (lg_sl ([.ref (q 0), .int p1])).length) Slot.unset).toArray = ls at hl ⊢
  have hl : lv_has ls 3 [(0, .ref (q 0)), (1, .int p1)] := hl
  have hk10 := hts (.fieldLink RX8 10 "LyndonText" "text" "LLyndonText$Letters;") (by decide +kernel)
  have hk40 := hts (.fieldLink RX8 40 "LyndonText" "suffixRow" "LLyndonText$Suffixes;") (by decide +kernel)
  have huX8 : ∀ w ∈ u_ws RX8 TX8 6, w ∈ wsX8_suffixAt := by decide +kernel
  have J55 : ∀ (Ua : (Nat → Int32)) (x2 : Int32), fX8_suffixAt_J55 N Tn Ta Ua x2 = some (.inl (e0, Ua9)) → ∀ (H : Heap) (locs : List Loc), va_P D vwCl (w_0_1_2_11_12 q cI cJ cD Tn Ta Ua) H → va_S (gA q [0, 1, 2, 11, 12]) s.heap H locs → ∀ ls : Array Slot, lv_has ls 3 [(2, .int x2)] → W p l e (headSpec wsX8_suffixAt rX8_suffixAtx).room s m ([.ref (q 0), .int p1] : List Value).toArray below meth c H locs 0 0 (vx_MQ below (fun _ _ _ _ => False) (gX D (gEn e0) (w_0_1_2_11_12 q cI cJ cD Tn Ta Ua9) (gA q [0, 1, 2, 11, 12])) ([.ref (q 0), .int p1] : List Value).toArray s 1 6 (gA q [0, 1, 2, 11, 12])) (F0 m 55 ls []) := by
    intro Ua x2 hf H locs hP hS ls hl
    unfold fX8_suffixAt_J55 at hf
    refine lv_iload_n hx hb dX8_suffixAt_55 rfl (lv_at hl 0 rfl) ?_
    exact nomatch hf
  have K24 : ∀ (n24 : Nat) (Ua : (Nat → Int32)) (x1 : Int32) (x2 : Int32), fX8_suffixAt_H24 N Tn Ta n24 Ua x1 x2 = some (.inl (e0, Ua9)) → ∀ (H : Heap) (locs : List Loc), va_P D vwCl (w_0_1_2_11_12 q cI cJ cD Tn Ta Ua) H → va_S (gA q [0, 1, 2, 11, 12]) s.heap H locs → ∀ ls : Array Slot, lv_has ls 3 [(0, .ref (q 0)), (1, .int x1), (2, .int x2)] → W p l e (headSpec wsX8_suffixAt rX8_suffixAtx).room s m ([.ref (q 0), .int p1] : List Value).toArray below meth c H locs 0 0 (vx_MQ below (fun _ _ _ _ => False) (gX D (gEn e0) (w_0_1_2_11_12 q cI cJ cD Tn Ta Ua9) (gA q [0, 1, 2, 11, 12])) ([.ref (q 0), .int p1] : List Value).toArray s 1 6 (gA q [0, 1, 2, 11, 12])) (F0 m 24 ls []) := by
    intro n24
    induction n24 with
    | zero =>
      intro Ua x1 x2 hf
      exact nomatch (show (none : Option ((Nat × (Nat → Int32)) ⊕ (Int32 × (Nat → Int32)))) = some (.inl (e0, Ua9)) from hf)
    | succ n24 ih24 =>
      intro Ua x1 x2 hf H locs hP hS ls hl
      have hf : fX8_suffixAt_B24 N Tn Ta (fX8_suffixAt_H24 N Tn Ta n24) Ua x1 x2 = some (.inl (e0, Ua9)) := hf
      unfold fX8_suffixAt_B24 at hf
      refine lv_iload_n hx hb dX8_suffixAt_24 rfl (lv_at hl 2 rfl) ?_
      refine lv_aload_n hx hb dX8_suffixAt_25 rfl (lv_at hl 0 rfl) ?_
      refine va_get (D := D) (ci := 6) (v := .ref (q 1)) (C := RX8) (T := TX8) (N := 6) hx hb hts huX8 hown hE.1 hP 0 rfl rfl 0 (by decide) hk10 (fun _ h9 => h9) rfl dX8_suffixAt_26 ?_
      obtain ⟨r29, hc, hf⟩ := bn_some hf
      try dsimp only at hf
      refine g_call0 (ws' := (w_0_1_2_11_12 q cI cJ cD Tn Ta Ua)) (st1 := [.int r29, .int x2]) hq [0, 1, 2, 11, 12] [1] [.inr 0, .inl 0, .inr 2, .inr 3, .inr 4] (va_runV (As := []) (rest := [.int x2]) ⟨hx, hb, hml, hown, hts⟩ (kX2_count l D cI cJ cD q hq N Tn r29 hc) (cwV 0 hts gX8_suffixAt_X2_count rfl rfl rfl (by decide +kernel) ⟨(Nat.le_of_ble_eq_true rfl), (Nat.le_of_ble_eq_true rfl)⟩) ⟨gP_blind, va_recv hE.1 hP (ci := 2) (q0 := 1) rfl rfl, fun U hU hW => ⟨rfl, by rw [hU]; exact hP.sub (ws' := (w_1 q cI cJ cD Tn)) [1] rfl, gEv.warm hW hE⟩⟩ rfl rfl hl.1 rfl (lv_room (Nat.le_of_ble_eq_true rfl)) dX8_suffixAt_29 ⟨Nat.zero_le _, Nat.zero_le _⟩) hP hS (gSub rfl) rfl rfl rfl rfl rfl (fun H locs hP hS => ?_)
      refine lv_iconst (v := (1 : Int32)) hx hb dX8_suffixAt_32 (by decide) ?_
      refine lv_isub hx hb dX8_suffixAt_33 ?_
      refine lv_icmp_ge (tgt := 55) hx hb dX8_suffixAt_34 (by decide) (fun c_1 => ?_) (fun c_1 => ?_)
      · have hf := (if_pos c_1).symm.trans hf
        exact J55 Ua x2 hf _ _ hP hS _ (lv_sub hl [2] rfl)
      · have hf := (if_neg c_1).symm.trans hf
        refine lv_aload_n hx hb dX8_suffixAt_37 rfl (lv_at hl 0 rfl) ?_
        refine va_get (D := D) (ci := 6) (v := .ref (q 11)) (C := RX8) (T := TX8) (N := 6) hx hb hts huX8 hown hE.1 hP 0 rfl rfl 4 (by decide) hk40 (fun _ h9 => h9) rfl dX8_suffixAt_38 ?_
        refine lv_iload_n hx hb dX8_suffixAt_41 rfl (lv_at hl 2 rfl) ?_
        obtain ⟨r42, hc, hf⟩ := bn_some hf
        try dsimp only at hf
        refine g_call0 (ws' := (w_0_1_2_11_12 q cI cJ cD Tn Ta Ua)) (st1 := [.int r42]) hq [0, 1, 2, 11, 12] [11, 12] [.inr 0, .inr 1, .inr 2, .inl 0, .inl 1] (va_runV (As := [.int x2]) (rest := []) ⟨hx, hb, hml, hown, hts⟩ (kX7_rank l D cI cJ cD q hq N Ua x2 r42 hc) (cwV 1 hts gX8_suffixAt_X7_rank rfl rfl rfl (by decide +kernel) ⟨(Nat.le_of_ble_eq_true rfl), (Nat.le_of_ble_eq_true rfl)⟩) ⟨gP_blind, va_recv hE.1 hP (ci := 5) (q0 := 3) rfl rfl, fun U hU hW => ⟨rfl, by rw [hU]; exact hP.sub (ws' := (w_11_12 q cI cJ cD Ua)) [3, 4] rfl, gEv.warm hW hE⟩⟩ rfl rfl hl.1 rfl (lv_room (Nat.le_of_ble_eq_true rfl)) dX8_suffixAt_42 ⟨Nat.zero_le _, Nat.zero_le _⟩) hP hS (gSub rfl) rfl rfl rfl rfl rfl (fun H locs hP hS => ?_)
        refine lv_iload_n hx hb dX8_suffixAt_45 rfl (lv_at hl 1 rfl) ?_
        refine lv_icmp_eq (tgt := 55) hx hb dX8_suffixAt_46 (by decide) (fun c_2 => ?_) (fun c_2 => ?_)
        · have hf := (if_pos c_2).symm.trans hf
          exact J55 Ua x2 hf _ _ hP hS _ (lv_sub hl [2] rfl)
        · have hf := (if_neg c_2).symm.trans hf
          refine lv_iinc (v := (x2 + 1)) (lv' := [(2, .int (x2 + 1)), (0, .ref (q 0)), (1, .int x1)]) hx hb dX8_suffixAt_49 hl (k := 2) rfl rfl (by decide) rfl (fun ls hl => ?_)
          refine lv_goto (tgt := 24) hx hb dX8_suffixAt_52 (by decide) ?_
          exact ih24 Ua x1 (x2 + 1) hf _ _ hP hS _ (lv_sub hl [1, 2, 0] rfl)
  unfold fX8_suffixAt at hf
  refine lv_iload_n hx hb dX8_suffixAt_0 rfl (lv_at hl 1 rfl) ?_
  refine lv_aload_n hx hb dX8_suffixAt_1 rfl (lv_at hl 0 rfl) ?_
  refine va_get (D := D) (ci := 6) (v := .ref (q 1)) (C := RX8) (T := TX8) (N := 6) hx hb hts huX8 hown hE.1 hP 0 rfl rfl 0 (by decide) hk10 (fun _ h9 => h9) rfl dX8_suffixAt_2 ?_
  obtain ⟨r5, hc, hf⟩ := bn_some hf
  try dsimp only at hf
  refine g_call0 (ws' := (w_0_1_2_11_12 q cI cJ cD Tn Ta Ua)) (st1 := [.int r5, .int p1]) hq [0, 1, 2, 11, 12] [1] [.inr 0, .inl 0, .inr 2, .inr 3, .inr 4] (va_runV (As := []) (rest := [.int p1]) ⟨hx, hb, hml, hown, hts⟩ (kX2_count l D cI cJ cD q hq N Tn r5 hc) (cwV 0 hts gX8_suffixAt_X2_count rfl rfl rfl (by decide +kernel) ⟨(Nat.le_of_ble_eq_true rfl), (Nat.le_of_ble_eq_true rfl)⟩) ⟨gP_blind, va_recv hE.1 hP (ci := 2) (q0 := 1) rfl rfl, fun U hU hW => ⟨rfl, by rw [hU]; exact hP.sub (ws' := (w_1 q cI cJ cD Tn)) [1] rfl, gEv.warm hW hE⟩⟩ rfl rfl hl.1 rfl (lv_room (Nat.le_of_ble_eq_true rfl)) dX8_suffixAt_5 ⟨Nat.zero_le _, Nat.zero_le _⟩) hP hS (gSub rfl) rfl rfl rfl rfl rfl (fun H locs hP hS => ?_)
  rcases bx_some hf with ⟨e8, hc, hf⟩ | ⟨⟨⟩, hc, hf⟩
  · try dsimp only at hf
    refine g_callX (ws' := (w_0_1_2_11_12 q cI cJ cD Tn Ta Ua)) hq [0, 1, 2, 11, 12] [] [.inr 0, .inr 1, .inr 2, .inr 3, .inr 4] (vx_runS (As := [.int p1, .int r5]) (rest := []) ⟨hx, hb, hml, hown, hts⟩ (kX8_checkIndexx l hlt D cI cJ cD sa q hq N p1 r5 e8 hc) (va_cwS 2 hts gX8_suffixAt_X8_checkIndex rfl rfl rfl (by decide +kernel) ⟨(Nat.le_of_ble_eq_true rfl), (Nat.le_of_ble_eq_true rfl)⟩) ⟨gPx_blind, fun U hU hW => ⟨rfl, by rw [hU]; exact hP.sub (ws' := (w_0none q cI cJ cD)) [] rfl, gEv.warm hW hE, gXe.go hW hS (gMono rfl) hXe hU⟩⟩ rfl rfl hl.1 rfl (lv_room (Nat.le_of_ble_eq_true rfl)) dX8_suffixAt_8 ⟨(Nat.le_of_ble_eq_true rfl), (Nat.le_of_ble_eq_true rfl)⟩) hP hS (gSub rfl) rfl rfl rfl rfl (fun ce q9 H locs hP hS hce hcv hcl => ?_)
    cases hf
    exact vx_out (fun x9 hx9 => (htab x9 hx9).elim) hlocks hce hcv hcl (fun t ht hv => ⟨rfl, by rw [ht]; exact hP, hS.F ht⟩) hS.2.2 (Nat.le_of_ble_eq_true rfl) (Nat.le_of_ble_eq_true rfl)
  try dsimp only at hf
  refine g_call0 (ws' := (w_0_1_2_11_12 q cI cJ cD Tn Ta Ua)) (st1 := []) hq [0, 1, 2, 11, 12] [] [.inr 0, .inr 1, .inr 2, .inr 3, .inr 4] (va_runS (As := [.int p1, .int r5]) (rest := []) ⟨hx, hb, hml, hown, hts⟩ (kX8_checkIndex l D cI cJ cD q hq N p1 r5 hc) (va_cwS 2 hts gX8_suffixAt_X8_checkIndex rfl rfl rfl (by decide +kernel) ⟨(Nat.le_of_ble_eq_true rfl), (Nat.le_of_ble_eq_true rfl)⟩) ⟨gP_blind, fun U hU hW => ⟨rfl, by rw [hU]; exact hP.sub (ws' := (w_0none q cI cJ cD)) [] rfl, gEv.warm hW hE⟩⟩ rfl rfl hl.1 rfl (lv_room (Nat.le_of_ble_eq_true rfl)) dX8_suffixAt_8 ⟨Nat.zero_le _, Nat.zero_le _⟩) hP hS (gSub rfl) rfl rfl rfl rfl rfl (fun H locs hP hS => ?_)
  refine lv_aload_n hx hb dX8_suffixAt_11 rfl (lv_at hl 0 rfl) ?_
  refine va_get (D := D) (ci := 6) (v := .ref (q 11)) (C := RX8) (T := TX8) (N := 6) hx hb hts huX8 hown hE.1 hP 0 rfl rfl 4 (by decide) hk40 (fun _ h9 => h9) rfl dX8_suffixAt_12 ?_
  refine lv_aload_n hx hb dX8_suffixAt_15 rfl (lv_at hl 0 rfl) ?_
  refine va_get (D := D) (ci := 6) (v := .ref (q 1)) (C := RX8) (T := TX8) (N := 6) hx hb hts huX8 hown hE.1 hP 0 rfl rfl 0 (by decide) hk10 (fun _ h9 => h9) rfl dX8_suffixAt_16 ?_
  obtain ⟨Ua19, hc, hf⟩ := bn_some hf
  try dsimp only at hf
  refine g_call0 (ws' := (w_0_1_2_11_12 q cI cJ cD Tn Ta Ua19)) (st1 := []) hq [0, 1, 2, 11, 12] [1, 2, 11, 12] [.inr 0, .inl 0, .inl 1, .inl 2, .inl 3] (va_runV (As := [.ref (q 1)]) (rest := []) ⟨hx, hb, hml, hown, hts⟩ (kX7_find l D cI cJ cD q hq N Tn Ta Ua Ua19 hc) (cwV 1 hts gX8_suffixAt_X7_find rfl rfl rfl (by decide +kernel) ⟨(Nat.le_of_ble_eq_true rfl), (Nat.le_of_ble_eq_true rfl)⟩) ⟨gP_blind, va_recv hE.1 hP (ci := 5) (q0 := 3) rfl rfl, fun U hU hW => ⟨rfl, by rw [hU]; exact hP.sub (ws' := (w_1_2_11_12 q cI cJ cD Tn Ta Ua)) [1, 2, 3, 4] rfl, gEv.warm hW hE⟩⟩ rfl rfl hl.1 rfl (lv_room (Nat.le_of_ble_eq_true rfl)) dX8_suffixAt_19 ⟨Nat.zero_le _, Nat.zero_le _⟩) hP hS (gSub rfl) rfl rfl rfl rfl rfl (fun H locs hP hS => ?_)
  refine lv_iconst (v := (0 : Int32)) hx hb dX8_suffixAt_22 (by decide) ?_
  refine lv_istore_n (lv' := [(2, .int (0 : Int32)), (0, .ref (q 0)), (1, .int p1)]) hx hb dX8_suffixAt_23 rfl hl (by decide) rfl (fun ls hl => ?_)
  exact K24 N Ua19 p1 (0 : Int32) hf _ _ hP hS _ (lv_sub hl [1, 2, 0] rfl)
set_option maxHeartbeats 4000000 in
set_option maxRecDepth 100000 in
theorem kX8_rankOf (l : Launch) (D : va_G) (cI cJ cD : ClassId) (q : Nat → Nat) (hq : gInj q) (N : Nat) (Tn : Int32) (Ta : (Nat → Int32)) (Ua : (Nat → Int32)) (p1 : Int32) (r0 : Int32) (Ua9 : (Nat → Int32)) (hf : fX8_rankOf N Tn Ta Ua p1 = some (.inr (r0, Ua9))) : Met l yX8_rankOf wsX8_rankOf rX8_rankOf (gP D cI cJ cD [.ref (q 0), .int p1] (w_0_1_2_11_12 q cI cJ cD Tn Ta Ua)) (gQ D (some (.int r0)) (w_0_1_2_11_12 q cI cJ cD Tn Ta Ua9) (gA q [0, 1, 2, 11, 12])) 0 0 (gA q [0, 1, 2, 11, 12]) := by
  refine Met.ofW (cc := cX8_rankOf) (maxL := 2) (ret := (some .int)) (by decide +kernel) rfl ?_
  intro p e s m args below meth c s₁ B hml hv
  obtain ⟨rfl, hP, hE⟩ := hv
  have hx := B.exec
  have hb := B.bytes
  have hr := B.returns
  have hts := atoms_spec (ws := wsX8_rankOf) B.pre
  have hown : s.vm.findClass RX8 = some m.cls := findClass_of_methodNamed B.named
  have hlocks := B.notSynchronized
  have hS : va_S (gA q [0, 1, 2, 11, 12]) s.heap s.heap [] := va_S.rf
  have hl := lv_entry ([.ref (q 0), .int p1]) (n := 2) (Nat.le_of_ble_eq_true rfl)
  rw [lg_entry_eq]
  generalize (lg_sl ([.ref (q 0), .int p1]) ++ List.replicate (2 - (lg_sl ([.ref (q 0), .int p1])).length) Slot.unset).toArray = ls at hl ⊢
  have hl : lv_has ls 2 [(0, .ref (q 0)), (1, .int p1)] := hl
  have hk10 := hts (.fieldLink RX8 10 "LyndonText" "text" "LLyndonText$Letters;") (by decide +kernel)
  have hk40 := hts (.fieldLink RX8 40 "LyndonText" "suffixRow" "LLyndonText$Suffixes;") (by decide +kernel)
  have huX8 : ∀ w ∈ u_ws RX8 TX8 6, w ∈ wsX8_rankOf := by decide +kernel
  unfold fX8_rankOf at hf
  refine lv_iload_n hx hb dX8_rankOf_0 rfl (lv_at hl 1 rfl) ?_
  refine lv_aload_n hx hb dX8_rankOf_1 rfl (lv_at hl 0 rfl) ?_
  refine va_get (D := D) (ci := 6) (v := .ref (q 1)) (C := RX8) (T := TX8) (N := 6) hx hb hts huX8 hown hE.1 hP 0 rfl rfl 0 (by decide) hk10 (fun _ h9 => h9) rfl dX8_rankOf_2 ?_
  obtain ⟨r5, hc, hf⟩ := bn_some hf
  try dsimp only at hf
  refine g_call0 (ws' := (w_0_1_2_11_12 q cI cJ cD Tn Ta Ua)) (st1 := [.int r5, .int p1]) hq [0, 1, 2, 11, 12] [1] [.inr 0, .inl 0, .inr 2, .inr 3, .inr 4] (va_runV (As := []) (rest := [.int p1]) ⟨hx, hb, hml, hown, hts⟩ (kX2_count l D cI cJ cD q hq N Tn r5 hc) (cwV 0 hts gX8_rankOf_X2_count rfl rfl rfl (by decide +kernel) ⟨(Nat.le_of_ble_eq_true rfl), (Nat.le_of_ble_eq_true rfl)⟩) ⟨gP_blind, va_recv hE.1 hP (ci := 2) (q0 := 1) rfl rfl, fun U hU hW => ⟨rfl, by rw [hU]; exact hP.sub (ws' := (w_1 q cI cJ cD Tn)) [1] rfl, gEv.warm hW hE⟩⟩ rfl rfl hl.1 rfl (lv_room (Nat.le_of_ble_eq_true rfl)) dX8_rankOf_5 ⟨Nat.zero_le _, Nat.zero_le _⟩) hP hS (gSub rfl) rfl rfl rfl rfl rfl (fun H locs hP hS => ?_)
  rcases bx_some hf with ⟨e8, hc, hf⟩ | ⟨⟨⟩, hc, hf⟩
  · exact nomatch hf
  try dsimp only at hf
  refine g_call0 (ws' := (w_0_1_2_11_12 q cI cJ cD Tn Ta Ua)) (st1 := []) hq [0, 1, 2, 11, 12] [] [.inr 0, .inr 1, .inr 2, .inr 3, .inr 4] (va_runS (As := [.int p1, .int r5]) (rest := []) ⟨hx, hb, hml, hown, hts⟩ (kX8_checkIndex l D cI cJ cD q hq N p1 r5 hc) (va_cwS 2 hts gX8_rankOf_X8_checkIndex rfl rfl rfl (by decide +kernel) ⟨(Nat.le_of_ble_eq_true rfl), (Nat.le_of_ble_eq_true rfl)⟩) ⟨gP_blind, fun U hU hW => ⟨rfl, by rw [hU]; exact hP.sub (ws' := (w_0none q cI cJ cD)) [] rfl, gEv.warm hW hE⟩⟩ rfl rfl hl.1 rfl (lv_room (Nat.le_of_ble_eq_true rfl)) dX8_rankOf_8 ⟨Nat.zero_le _, Nat.zero_le _⟩) hP hS (gSub rfl) rfl rfl rfl rfl rfl (fun H locs hP hS => ?_)
  refine lv_aload_n hx hb dX8_rankOf_11 rfl (lv_at hl 0 rfl) ?_
  refine va_get (D := D) (ci := 6) (v := .ref (q 11)) (C := RX8) (T := TX8) (N := 6) hx hb hts huX8 hown hE.1 hP 0 rfl rfl 4 (by decide) hk40 (fun _ h9 => h9) rfl dX8_rankOf_12 ?_
  refine lv_aload_n hx hb dX8_rankOf_15 rfl (lv_at hl 0 rfl) ?_
  refine va_get (D := D) (ci := 6) (v := .ref (q 1)) (C := RX8) (T := TX8) (N := 6) hx hb hts huX8 hown hE.1 hP 0 rfl rfl 0 (by decide) hk10 (fun _ h9 => h9) rfl dX8_rankOf_16 ?_
  obtain ⟨Ua19, hc, hf⟩ := bn_some hf
  try dsimp only at hf
  refine g_call0 (ws' := (w_0_1_2_11_12 q cI cJ cD Tn Ta Ua19)) (st1 := []) hq [0, 1, 2, 11, 12] [1, 2, 11, 12] [.inr 0, .inl 0, .inl 1, .inl 2, .inl 3] (va_runV (As := [.ref (q 1)]) (rest := []) ⟨hx, hb, hml, hown, hts⟩ (kX7_find l D cI cJ cD q hq N Tn Ta Ua Ua19 hc) (cwV 1 hts gX8_rankOf_X7_find rfl rfl rfl (by decide +kernel) ⟨(Nat.le_of_ble_eq_true rfl), (Nat.le_of_ble_eq_true rfl)⟩) ⟨gP_blind, va_recv hE.1 hP (ci := 5) (q0 := 3) rfl rfl, fun U hU hW => ⟨rfl, by rw [hU]; exact hP.sub (ws' := (w_1_2_11_12 q cI cJ cD Tn Ta Ua)) [1, 2, 3, 4] rfl, gEv.warm hW hE⟩⟩ rfl rfl hl.1 rfl (lv_room (Nat.le_of_ble_eq_true rfl)) dX8_rankOf_19 ⟨Nat.zero_le _, Nat.zero_le _⟩) hP hS (gSub rfl) rfl rfl rfl rfl rfl (fun H locs hP hS => ?_)
  refine lv_aload_n hx hb dX8_rankOf_22 rfl (lv_at hl 0 rfl) ?_
  refine va_get (D := D) (ci := 6) (v := .ref (q 11)) (C := RX8) (T := TX8) (N := 6) hx hb hts huX8 hown hE.1 hP 0 rfl rfl 4 (by decide) hk40 (fun _ h9 => h9) rfl dX8_rankOf_23 ?_
  refine lv_iload_n hx hb dX8_rankOf_26 rfl (lv_at hl 1 rfl) ?_
  obtain ⟨r27, hc, hf⟩ := bn_some hf
  try dsimp only at hf
  refine g_call0 (ws' := (w_0_1_2_11_12 q cI cJ cD Tn Ta Ua19)) (st1 := [.int r27]) hq [0, 1, 2, 11, 12] [11, 12] [.inr 0, .inr 1, .inr 2, .inl 0, .inl 1] (va_runV (As := [.int p1]) (rest := []) ⟨hx, hb, hml, hown, hts⟩ (kX7_rank l D cI cJ cD q hq N Ua19 p1 r27 hc) (cwV 1 hts gX8_rankOf_X7_rank rfl rfl rfl (by decide +kernel) ⟨(Nat.le_of_ble_eq_true rfl), (Nat.le_of_ble_eq_true rfl)⟩) ⟨gP_blind, va_recv hE.1 hP (ci := 5) (q0 := 3) rfl rfl, fun U hU hW => ⟨rfl, by rw [hU]; exact hP.sub (ws' := (w_11_12 q cI cJ cD Ua19)) [3, 4] rfl, gEv.warm hW hE⟩⟩ rfl rfl hl.1 rfl (lv_room (Nat.le_of_ble_eq_true rfl)) dX8_rankOf_27 ⟨Nat.zero_le _, Nat.zero_le _⟩) hP hS (gSub rfl) rfl rfl rfl rfl rfl (fun H locs hP hS => ?_)
  cases hf
  exact W.iret hx hb hr (fun t ht hW => ⟨⟨rfl, by rw [ht]; exact hP⟩, hS.F ht⟩) hS.2.2 dX8_rankOf_30
set_option maxHeartbeats 4000000 in
set_option maxRecDepth 100000 in
theorem kX8_rankOfx (l : Launch) (hlt : l.stackTraces = false) (D : va_G) (cI cJ cD : ClassId) (sa : Nat → Nat) (q : Nat → Nat) (hq : gInj q) (N : Nat) (Tn : Int32) (Ta : (Nat → Int32)) (Ua : (Nat → Int32)) (p1 : Int32) (e0 : Nat) (Ua9 : (Nat → Int32)) (hf : fX8_rankOf N Tn Ta Ua p1 = some (.inl (e0, Ua9))) : vx_Met l yX8_rankOf wsX8_rankOf rX8_rankOfx (gPx D cI cJ cD sa (gA q [0, 1, 2, 11, 12]) [.ref (q 0), .int p1] (w_0_1_2_11_12 q cI cJ cD Tn Ta Ua)) (fun _ _ _ _ => False) (gX D (gEn e0) (w_0_1_2_11_12 q cI cJ cD Tn Ta Ua9) (gA q [0, 1, 2, 11, 12])) 1 6 (gA q [0, 1, 2, 11, 12]) := by
  refine vx_ofW (cc := cX8_rankOf) (maxL := 2) (ret := (some .int)) (by decide +kernel) rfl ?_
  intro p e s m args below meth c s₁ B hml htab hv
  obtain ⟨rfl, hP, hE, hXe⟩ := hv
  have hx := B.exec
  have hb := B.bytes
  have hr := B.returns
  have hts := atoms_spec (ws := wsX8_rankOf) B.pre
  have hown : s.vm.findClass RX8 = some m.cls := findClass_of_methodNamed B.named
  have hlocks := B.notSynchronized
  have hS : va_S (gA q [0, 1, 2, 11, 12]) s.heap s.heap [] := va_S.rf
  have hl := lv_entry ([.ref (q 0), .int p1]) (n := 2) (Nat.le_of_ble_eq_true rfl)
  rw [lg_entry_eq]
  generalize (lg_sl ([.ref (q 0), .int p1]) ++ List.replicate (2 - (lg_sl ([.ref (q 0), .int p1])).length) Slot.unset).toArray = ls at hl ⊢
  have hl : lv_has ls 2 [(0, .ref (q 0)), (1, .int p1)] := hl
  have hk10 := hts (.fieldLink RX8 10 "LyndonText" "text" "LLyndonText$Letters;") (by decide +kernel)
  have hk40 := hts (.fieldLink RX8 40 "LyndonText" "suffixRow" "LLyndonText$Suffixes;") (by decide +kernel)
  have huX8 : ∀ w ∈ u_ws RX8 TX8 6, w ∈ wsX8_rankOf := by decide +kernel
  unfold fX8_rankOf at hf
  refine lv_iload_n hx hb dX8_rankOf_0 rfl (lv_at hl 1 rfl) ?_
  refine lv_aload_n hx hb dX8_rankOf_1 rfl (lv_at hl 0 rfl) ?_
  refine va_get (D := D) (ci := 6) (v := .ref (q 1)) (C := RX8) (T := TX8) (N := 6) hx hb hts huX8 hown hE.1 hP 0 rfl rfl 0 (by decide) hk10 (fun _ h9 => h9) rfl dX8_rankOf_2 ?_
  obtain ⟨r5, hc, hf⟩ := bn_some hf
  try dsimp only at hf
  refine g_call0 (ws' := (w_0_1_2_11_12 q cI cJ cD Tn Ta Ua)) (st1 := [.int r5, .int p1]) hq [0, 1, 2, 11, 12] [1] [.inr 0, .inl 0, .inr 2, .inr 3, .inr 4] (va_runV (As := []) (rest := [.int p1]) ⟨hx, hb, hml, hown, hts⟩ (kX2_count l D cI cJ cD q hq N Tn r5 hc) (cwV 0 hts gX8_rankOf_X2_count rfl rfl rfl (by decide +kernel) ⟨(Nat.le_of_ble_eq_true rfl), (Nat.le_of_ble_eq_true rfl)⟩) ⟨gP_blind, va_recv hE.1 hP (ci := 2) (q0 := 1) rfl rfl, fun U hU hW => ⟨rfl, by rw [hU]; exact hP.sub (ws' := (w_1 q cI cJ cD Tn)) [1] rfl, gEv.warm hW hE⟩⟩ rfl rfl hl.1 rfl (lv_room (Nat.le_of_ble_eq_true rfl)) dX8_rankOf_5 ⟨Nat.zero_le _, Nat.zero_le _⟩) hP hS (gSub rfl) rfl rfl rfl rfl rfl (fun H locs hP hS => ?_)
  rcases bx_some hf with ⟨e8, hc, hf⟩ | ⟨⟨⟩, hc, hf⟩
  · try dsimp only at hf
    refine g_callX (ws' := (w_0_1_2_11_12 q cI cJ cD Tn Ta Ua)) hq [0, 1, 2, 11, 12] [] [.inr 0, .inr 1, .inr 2, .inr 3, .inr 4] (vx_runS (As := [.int p1, .int r5]) (rest := []) ⟨hx, hb, hml, hown, hts⟩ (kX8_checkIndexx l hlt D cI cJ cD sa q hq N p1 r5 e8 hc) (va_cwS 2 hts gX8_rankOf_X8_checkIndex rfl rfl rfl (by decide +kernel) ⟨(Nat.le_of_ble_eq_true rfl), (Nat.le_of_ble_eq_true rfl)⟩) ⟨gPx_blind, fun U hU hW => ⟨rfl, by rw [hU]; exact hP.sub (ws' := (w_0none q cI cJ cD)) [] rfl, gEv.warm hW hE, gXe.go hW hS (gMono rfl) hXe hU⟩⟩ rfl rfl hl.1 rfl (lv_room (Nat.le_of_ble_eq_true rfl)) dX8_rankOf_8 ⟨(Nat.le_of_ble_eq_true rfl), (Nat.le_of_ble_eq_true rfl)⟩) hP hS (gSub rfl) rfl rfl rfl rfl (fun ce q9 H locs hP hS hce hcv hcl => ?_)
    cases hf
    exact vx_out (fun x9 hx9 => (htab x9 hx9).elim) hlocks hce hcv hcl (fun t ht hv => ⟨rfl, by rw [ht]; exact hP, hS.F ht⟩) hS.2.2 (Nat.le_of_ble_eq_true rfl) (Nat.le_of_ble_eq_true rfl)
  try dsimp only at hf
  refine g_call0 (ws' := (w_0_1_2_11_12 q cI cJ cD Tn Ta Ua)) (st1 := []) hq [0, 1, 2, 11, 12] [] [.inr 0, .inr 1, .inr 2, .inr 3, .inr 4] (va_runS (As := [.int p1, .int r5]) (rest := []) ⟨hx, hb, hml, hown, hts⟩ (kX8_checkIndex l D cI cJ cD q hq N p1 r5 hc) (va_cwS 2 hts gX8_rankOf_X8_checkIndex rfl rfl rfl (by decide +kernel) ⟨(Nat.le_of_ble_eq_true rfl), (Nat.le_of_ble_eq_true rfl)⟩) ⟨gP_blind, fun U hU hW => ⟨rfl, by rw [hU]; exact hP.sub (ws' := (w_0none q cI cJ cD)) [] rfl, gEv.warm hW hE⟩⟩ rfl rfl hl.1 rfl (lv_room (Nat.le_of_ble_eq_true rfl)) dX8_rankOf_8 ⟨Nat.zero_le _, Nat.zero_le _⟩) hP hS (gSub rfl) rfl rfl rfl rfl rfl (fun H locs hP hS => ?_)
  refine lv_aload_n hx hb dX8_rankOf_11 rfl (lv_at hl 0 rfl) ?_
  refine va_get (D := D) (ci := 6) (v := .ref (q 11)) (C := RX8) (T := TX8) (N := 6) hx hb hts huX8 hown hE.1 hP 0 rfl rfl 4 (by decide) hk40 (fun _ h9 => h9) rfl dX8_rankOf_12 ?_
  refine lv_aload_n hx hb dX8_rankOf_15 rfl (lv_at hl 0 rfl) ?_
  refine va_get (D := D) (ci := 6) (v := .ref (q 1)) (C := RX8) (T := TX8) (N := 6) hx hb hts huX8 hown hE.1 hP 0 rfl rfl 0 (by decide) hk10 (fun _ h9 => h9) rfl dX8_rankOf_16 ?_
  obtain ⟨Ua19, hc, hf⟩ := bn_some hf
  try dsimp only at hf
  refine g_call0 (ws' := (w_0_1_2_11_12 q cI cJ cD Tn Ta Ua19)) (st1 := []) hq [0, 1, 2, 11, 12] [1, 2, 11, 12] [.inr 0, .inl 0, .inl 1, .inl 2, .inl 3] (va_runV (As := [.ref (q 1)]) (rest := []) ⟨hx, hb, hml, hown, hts⟩ (kX7_find l D cI cJ cD q hq N Tn Ta Ua Ua19 hc) (cwV 1 hts gX8_rankOf_X7_find rfl rfl rfl (by decide +kernel) ⟨(Nat.le_of_ble_eq_true rfl), (Nat.le_of_ble_eq_true rfl)⟩) ⟨gP_blind, va_recv hE.1 hP (ci := 5) (q0 := 3) rfl rfl, fun U hU hW => ⟨rfl, by rw [hU]; exact hP.sub (ws' := (w_1_2_11_12 q cI cJ cD Tn Ta Ua)) [1, 2, 3, 4] rfl, gEv.warm hW hE⟩⟩ rfl rfl hl.1 rfl (lv_room (Nat.le_of_ble_eq_true rfl)) dX8_rankOf_19 ⟨Nat.zero_le _, Nat.zero_le _⟩) hP hS (gSub rfl) rfl rfl rfl rfl rfl (fun H locs hP hS => ?_)
  refine lv_aload_n hx hb dX8_rankOf_22 rfl (lv_at hl 0 rfl) ?_
  refine va_get (D := D) (ci := 6) (v := .ref (q 11)) (C := RX8) (T := TX8) (N := 6) hx hb hts huX8 hown hE.1 hP 0 rfl rfl 4 (by decide) hk40 (fun _ h9 => h9) rfl dX8_rankOf_23 ?_
  refine lv_iload_n hx hb dX8_rankOf_26 rfl (lv_at hl 1 rfl) ?_
  obtain ⟨r27, hc, hf⟩ := bn_some hf
  try dsimp only at hf
  refine g_call0 (ws' := (w_0_1_2_11_12 q cI cJ cD Tn Ta Ua19)) (st1 := [.int r27]) hq [0, 1, 2, 11, 12] [11, 12] [.inr 0, .inr 1, .inr 2, .inl 0, .inl 1] (va_runV (As := [.int p1]) (rest := []) ⟨hx, hb, hml, hown, hts⟩ (kX7_rank l D cI cJ cD q hq N Ua19 p1 r27 hc) (cwV 1 hts gX8_rankOf_X7_rank rfl rfl rfl (by decide +kernel) ⟨(Nat.le_of_ble_eq_true rfl), (Nat.le_of_ble_eq_true rfl)⟩) ⟨gP_blind, va_recv hE.1 hP (ci := 5) (q0 := 3) rfl rfl, fun U hU hW => ⟨rfl, by rw [hU]; exact hP.sub (ws' := (w_11_12 q cI cJ cD Ua19)) [3, 4] rfl, gEv.warm hW hE⟩⟩ rfl rfl hl.1 rfl (lv_room (Nat.le_of_ble_eq_true rfl)) dX8_rankOf_27 ⟨Nat.zero_le _, Nat.zero_le _⟩) hP hS (gSub rfl) rfl rfl rfl rfl rfl (fun H locs hP hS => ?_)
  exact nomatch hf
set_option maxHeartbeats 4000000 in
set_option maxRecDepth 100000 in
theorem kX8_necklaces (l : Launch) (D : va_G) (cI cJ cD : ClassId) (q : Nat → Nat) (hq : gInj q) (N : Nat) (p1 : Int32) (p2 : Int32) (r0 : Int64) (hf : fX8_necklaces N p1 p2 = some (.inr r0)) : Met l yX8_necklaces wsX8_necklaces rX8_necklaces (gP D cI cJ cD [.ref (q 0), .int p1, .int p2] (w_0 q cI cJ cD)) (gQ D (some (.long r0)) (w_0 q cI cJ cD) (gA q [0])) 0 0 (gA q [0]) := by
  refine Met.ofW (cc := cX8_necklaces) (maxL := 3) (ret := (some .long)) (by decide +kernel) rfl ?_
  intro p e s m args below meth c s₁ B hml hv
  obtain ⟨rfl, hP, hE⟩ := hv
  have hx := B.exec
  have hb := B.bytes
  have hr := B.returns
  have hts := atoms_spec (ws := wsX8_necklaces) B.pre
  have hown : s.vm.findClass RX8 = some m.cls := findClass_of_methodNamed B.named
  have hlocks := B.notSynchronized
  have hS : va_S (gA q [0]) s.heap s.heap [] := va_S.rf
  have hl := lv_entry ([.ref (q 0), .int p1, .int p2]) (n := 3) (Nat.le_of_ble_eq_true rfl)
  rw [lg_entry_eq]
  generalize (lg_sl ([.ref (q 0), .int p1, .int p2]) ++ List.replicate (3 - (lg_sl ([.ref (q 0), .int p1, .int p2])).length) Slot.unset).toArray = ls at hl ⊢
  have hl : lv_has ls 3 [(0, .ref (q 0)), (1, .int p1), (2, .int p2)] := hl
  unfold fX8_necklaces at hf
  refine lv_iload_n hx hb dX8_necklaces_0 rfl (lv_at hl 1 rfl) ?_
  refine lv_iconst (v := (1 : Int32)) hx hb dX8_necklaces_1 (by decide) ?_
  refine lv_bipush (v := (10 : Int32)) hx hb dX8_necklaces_2 (by decide) ?_
  rcases bx_some hf with ⟨e4, hc, hf⟩ | ⟨⟨⟩, hc, hf⟩
  · exact nomatch hf
  try dsimp only at hf
  refine g_call0 (ws' := (w_0 q cI cJ cD)) (st1 := []) hq [0] [] [.inr 0] (va_runS (As := [.int p1, .int (1 : Int32), .int (10 : Int32)]) (rest := []) ⟨hx, hb, hml, hown, hts⟩ (kX8_checkArgument l D cI cJ cD q hq N p1 (1 : Int32) (10 : Int32) hc) (va_cwS 3 hts gX8_necklaces_X8_checkArgument rfl rfl rfl (by decide +kernel) ⟨(Nat.le_of_ble_eq_true rfl), (Nat.le_of_ble_eq_true rfl)⟩) ⟨gP_blind, fun U hU hW => ⟨rfl, by rw [hU]; exact hP.sub (ws' := (w_0none q cI cJ cD)) [] rfl, gEv.warm hW hE⟩⟩ rfl rfl hl.1 rfl (lv_room (Nat.le_of_ble_eq_true rfl)) dX8_necklaces_4 ⟨Nat.zero_le _, Nat.zero_le _⟩) hP hS (gSub rfl) rfl rfl rfl rfl rfl (fun H locs hP hS => ?_)
  refine lv_iload_n hx hb dX8_necklaces_7 rfl (lv_at hl 2 rfl) ?_
  refine lv_iconst (v := (1 : Int32)) hx hb dX8_necklaces_8 (by decide) ?_
  refine lv_bipush (v := (12 : Int32)) hx hb dX8_necklaces_9 (by decide) ?_
  rcases bx_some hf with ⟨e11, hc, hf⟩ | ⟨⟨⟩, hc, hf⟩
  · exact nomatch hf
  try dsimp only at hf
  refine g_call0 (ws' := (w_0 q cI cJ cD)) (st1 := []) hq [0] [] [.inr 0] (va_runS (As := [.int p2, .int (1 : Int32), .int (12 : Int32)]) (rest := []) ⟨hx, hb, hml, hown, hts⟩ (kX8_checkArgument l D cI cJ cD q hq N p2 (1 : Int32) (12 : Int32) hc) (va_cwS 3 hts gX8_necklaces_X8_checkArgument rfl rfl rfl (by decide +kernel) ⟨(Nat.le_of_ble_eq_true rfl), (Nat.le_of_ble_eq_true rfl)⟩) ⟨gP_blind, fun U hU hW => ⟨rfl, by rw [hU]; exact hP.sub (ws' := (w_0none q cI cJ cD)) [] rfl, gEv.warm hW hE⟩⟩ rfl rfl hl.1 rfl (lv_room (Nat.le_of_ble_eq_true rfl)) dX8_necklaces_11 ⟨Nat.zero_le _, Nat.zero_le _⟩) hP hS (gSub rfl) rfl rfl rfl rfl rfl (fun H locs hP hS => ?_)
  refine lv_iload_n hx hb dX8_necklaces_14 rfl (lv_at hl 1 rfl) ?_
  refine lv_iload_n hx hb dX8_necklaces_15 rfl (lv_at hl 2 rfl) ?_
  obtain ⟨r16, hc, hf⟩ := bn_some hf
  try dsimp only at hf
  refine g_call0 (ws' := (w_0 q cI cJ cD)) (st1 := [.long r16]) hq [0] [] [.inr 0] (va_runS (As := [.int p1, .int p2]) (rest := []) ⟨hx, hb, hml, hown, hts⟩ (kX4_necklaceCount l D cI cJ cD q hq N p1 p2 r16 hc) (va_cwS 2 hts gX8_necklaces_X4_necklaceCount rfl rfl rfl (by decide +kernel) ⟨(Nat.le_of_ble_eq_true rfl), (Nat.le_of_ble_eq_true rfl)⟩) ⟨gP_blind, fun U hU hW => ⟨rfl, by rw [hU]; exact hP.sub (ws' := (w_0none q cI cJ cD)) [] rfl, gEv.warm hW hE⟩⟩ rfl rfl hl.1 rfl (lv_room (Nat.le_of_ble_eq_true rfl)) dX8_necklaces_16 ⟨Nat.zero_le _, Nat.zero_le _⟩) hP hS (gSub rfl) rfl rfl rfl rfl rfl (fun H locs hP hS => ?_)
  cases hf
  exact W.lret hx hb hr (fun t ht hW => ⟨⟨rfl, by rw [ht]; exact hP⟩, hS.F ht⟩) hS.2.2 dX8_necklaces_19
set_option maxHeartbeats 4000000 in
set_option maxRecDepth 100000 in
theorem kX8_necklacesx (l : Launch) (hlt : l.stackTraces = false) (D : va_G) (cI cJ cD : ClassId) (sa : Nat → Nat) (q : Nat → Nat) (hq : gInj q) (N : Nat) (p1 : Int32) (p2 : Int32) (e0 : Nat) (hf : fX8_necklaces N p1 p2 = some (.inl e0)) : vx_Met l yX8_necklaces wsX8_necklaces rX8_necklacesx (gPx D cI cJ cD sa (gA q [0]) [.ref (q 0), .int p1, .int p2] (w_0 q cI cJ cD)) (fun _ _ _ _ => False) (gX D (gEn e0) (w_0 q cI cJ cD) (gA q [0])) 1 6 (gA q [0]) := by
  refine vx_ofW (cc := cX8_necklaces) (maxL := 3) (ret := (some .long)) (by decide +kernel) rfl ?_
  intro p e s m args below meth c s₁ B hml htab hv
  obtain ⟨rfl, hP, hE, hXe⟩ := hv
  have hx := B.exec
  have hb := B.bytes
  have hr := B.returns
  have hts := atoms_spec (ws := wsX8_necklaces) B.pre
  have hown : s.vm.findClass RX8 = some m.cls := findClass_of_methodNamed B.named
  have hlocks := B.notSynchronized
  have hS : va_S (gA q [0]) s.heap s.heap [] := va_S.rf
  have hl := lv_entry ([.ref (q 0), .int p1, .int p2]) (n := 3) (Nat.le_of_ble_eq_true rfl)
  rw [lg_entry_eq]
  generalize (lg_sl ([.ref (q 0), .int p1, .int p2]) ++ List.replicate (3 - (lg_sl ([.ref (q 0), .int p1, .int p2])).length) Slot.unset).toArray = ls at hl ⊢
  have hl : lv_has ls 3 [(0, .ref (q 0)), (1, .int p1), (2, .int p2)] := hl
  unfold fX8_necklaces at hf
  refine lv_iload_n hx hb dX8_necklaces_0 rfl (lv_at hl 1 rfl) ?_
  refine lv_iconst (v := (1 : Int32)) hx hb dX8_necklaces_1 (by decide) ?_
  refine lv_bipush (v := (10 : Int32)) hx hb dX8_necklaces_2 (by decide) ?_
  rcases bx_some hf with ⟨e4, hc, hf⟩ | ⟨⟨⟩, hc, hf⟩
  · try dsimp only at hf
    refine g_callX (ws' := (w_0 q cI cJ cD)) hq [0] [] [.inr 0] (vx_runS (As := [.int p1, .int (1 : Int32), .int (10 : Int32)]) (rest := []) ⟨hx, hb, hml, hown, hts⟩ (kX8_checkArgumentx l hlt D cI cJ cD sa q hq N p1 (1 : Int32) (10 : Int32) e4 hc) (va_cwS 3 hts gX8_necklaces_X8_checkArgument rfl rfl rfl (by decide +kernel) ⟨(Nat.le_of_ble_eq_true rfl), (Nat.le_of_ble_eq_true rfl)⟩) ⟨gPx_blind, fun U hU hW => ⟨rfl, by rw [hU]; exact hP.sub (ws' := (w_0none q cI cJ cD)) [] rfl, gEv.warm hW hE, gXe.go hW hS (gMono rfl) hXe hU⟩⟩ rfl rfl hl.1 rfl (lv_room (Nat.le_of_ble_eq_true rfl)) dX8_necklaces_4 ⟨(Nat.le_of_ble_eq_true rfl), (Nat.le_of_ble_eq_true rfl)⟩) hP hS (gSub rfl) rfl rfl rfl rfl (fun ce q9 H locs hP hS hce hcv hcl => ?_)
    cases hf
    exact vx_out (fun x9 hx9 => (htab x9 hx9).elim) hlocks hce hcv hcl (fun t ht hv => ⟨rfl, by rw [ht]; exact hP, hS.F ht⟩) hS.2.2 (Nat.le_of_ble_eq_true rfl) (Nat.le_of_ble_eq_true rfl)
  try dsimp only at hf
  refine g_call0 (ws' := (w_0 q cI cJ cD)) (st1 := []) hq [0] [] [.inr 0] (va_runS (As := [.int p1, .int (1 : Int32), .int (10 : Int32)]) (rest := []) ⟨hx, hb, hml, hown, hts⟩ (kX8_checkArgument l D cI cJ cD q hq N p1 (1 : Int32) (10 : Int32) hc) (va_cwS 3 hts gX8_necklaces_X8_checkArgument rfl rfl rfl (by decide +kernel) ⟨(Nat.le_of_ble_eq_true rfl), (Nat.le_of_ble_eq_true rfl)⟩) ⟨gP_blind, fun U hU hW => ⟨rfl, by rw [hU]; exact hP.sub (ws' := (w_0none q cI cJ cD)) [] rfl, gEv.warm hW hE⟩⟩ rfl rfl hl.1 rfl (lv_room (Nat.le_of_ble_eq_true rfl)) dX8_necklaces_4 ⟨Nat.zero_le _, Nat.zero_le _⟩) hP hS (gSub rfl) rfl rfl rfl rfl rfl (fun H locs hP hS => ?_)
  refine lv_iload_n hx hb dX8_necklaces_7 rfl (lv_at hl 2 rfl) ?_
  refine lv_iconst (v := (1 : Int32)) hx hb dX8_necklaces_8 (by decide) ?_
  refine lv_bipush (v := (12 : Int32)) hx hb dX8_necklaces_9 (by decide) ?_
  rcases bx_some hf with ⟨e11, hc, hf⟩ | ⟨⟨⟩, hc, hf⟩
  · try dsimp only at hf
    refine g_callX (ws' := (w_0 q cI cJ cD)) hq [0] [] [.inr 0] (vx_runS (As := [.int p2, .int (1 : Int32), .int (12 : Int32)]) (rest := []) ⟨hx, hb, hml, hown, hts⟩ (kX8_checkArgumentx l hlt D cI cJ cD sa q hq N p2 (1 : Int32) (12 : Int32) e11 hc) (va_cwS 3 hts gX8_necklaces_X8_checkArgument rfl rfl rfl (by decide +kernel) ⟨(Nat.le_of_ble_eq_true rfl), (Nat.le_of_ble_eq_true rfl)⟩) ⟨gPx_blind, fun U hU hW => ⟨rfl, by rw [hU]; exact hP.sub (ws' := (w_0none q cI cJ cD)) [] rfl, gEv.warm hW hE, gXe.go hW hS (gMono rfl) hXe hU⟩⟩ rfl rfl hl.1 rfl (lv_room (Nat.le_of_ble_eq_true rfl)) dX8_necklaces_11 ⟨(Nat.le_of_ble_eq_true rfl), (Nat.le_of_ble_eq_true rfl)⟩) hP hS (gSub rfl) rfl rfl rfl rfl (fun ce q9 H locs hP hS hce hcv hcl => ?_)
    cases hf
    exact vx_out (fun x9 hx9 => (htab x9 hx9).elim) hlocks hce hcv hcl (fun t ht hv => ⟨rfl, by rw [ht]; exact hP, hS.F ht⟩) hS.2.2 (Nat.le_of_ble_eq_true rfl) (Nat.le_of_ble_eq_true rfl)
  try dsimp only at hf
  refine g_call0 (ws' := (w_0 q cI cJ cD)) (st1 := []) hq [0] [] [.inr 0] (va_runS (As := [.int p2, .int (1 : Int32), .int (12 : Int32)]) (rest := []) ⟨hx, hb, hml, hown, hts⟩ (kX8_checkArgument l D cI cJ cD q hq N p2 (1 : Int32) (12 : Int32) hc) (va_cwS 3 hts gX8_necklaces_X8_checkArgument rfl rfl rfl (by decide +kernel) ⟨(Nat.le_of_ble_eq_true rfl), (Nat.le_of_ble_eq_true rfl)⟩) ⟨gP_blind, fun U hU hW => ⟨rfl, by rw [hU]; exact hP.sub (ws' := (w_0none q cI cJ cD)) [] rfl, gEv.warm hW hE⟩⟩ rfl rfl hl.1 rfl (lv_room (Nat.le_of_ble_eq_true rfl)) dX8_necklaces_11 ⟨Nat.zero_le _, Nat.zero_le _⟩) hP hS (gSub rfl) rfl rfl rfl rfl rfl (fun H locs hP hS => ?_)
  refine lv_iload_n hx hb dX8_necklaces_14 rfl (lv_at hl 1 rfl) ?_
  refine lv_iload_n hx hb dX8_necklaces_15 rfl (lv_at hl 2 rfl) ?_
  obtain ⟨r16, hc, hf⟩ := bn_some hf
  try dsimp only at hf
  refine g_call0 (ws' := (w_0 q cI cJ cD)) (st1 := [.long r16]) hq [0] [] [.inr 0] (va_runS (As := [.int p1, .int p2]) (rest := []) ⟨hx, hb, hml, hown, hts⟩ (kX4_necklaceCount l D cI cJ cD q hq N p1 p2 r16 hc) (va_cwS 2 hts gX8_necklaces_X4_necklaceCount rfl rfl rfl (by decide +kernel) ⟨(Nat.le_of_ble_eq_true rfl), (Nat.le_of_ble_eq_true rfl)⟩) ⟨gP_blind, fun U hU hW => ⟨rfl, by rw [hU]; exact hP.sub (ws' := (w_0none q cI cJ cD)) [] rfl, gEv.warm hW hE⟩⟩ rfl rfl hl.1 rfl (lv_room (Nat.le_of_ble_eq_true rfl)) dX8_necklaces_16 ⟨Nat.zero_le _, Nat.zero_le _⟩) hP hS (gSub rfl) rfl rfl rfl rfl rfl (fun H locs hP hS => ?_)
  exact nomatch hf
set_option maxHeartbeats 4000000 in
set_option maxRecDepth 100000 in
theorem kX8_lyndonWords (l : Launch) (D : va_G) (cI cJ cD : ClassId) (q : Nat → Nat) (hq : gInj q) (N : Nat) (p1 : Int32) (p2 : Int32) (r0 : Int64) (hf : fX8_lyndonWords N p1 p2 = some (.inr r0)) : Met l yX8_lyndonWords wsX8_lyndonWords rX8_lyndonWords (gP D cI cJ cD [.ref (q 0), .int p1, .int p2] (w_0 q cI cJ cD)) (gQ D (some (.long r0)) (w_0 q cI cJ cD) (gA q [0])) 0 0 (gA q [0]) := by
  refine Met.ofW (cc := cX8_lyndonWords) (maxL := 3) (ret := (some .long)) (by decide +kernel) rfl ?_
  intro p e s m args below meth c s₁ B hml hv
  obtain ⟨rfl, hP, hE⟩ := hv
  have hx := B.exec
  have hb := B.bytes
  have hr := B.returns
  have hts := atoms_spec (ws := wsX8_lyndonWords) B.pre
  have hown : s.vm.findClass RX8 = some m.cls := findClass_of_methodNamed B.named
  have hlocks := B.notSynchronized
  have hS : va_S (gA q [0]) s.heap s.heap [] := va_S.rf
  have hl := lv_entry ([.ref (q 0), .int p1, .int p2]) (n := 3) (Nat.le_of_ble_eq_true rfl)
  rw [lg_entry_eq]
  generalize (lg_sl ([.ref (q 0), .int p1, .int p2]) ++ List.replicate (3 - (lg_sl ([.ref (q 0), .int p1, .int p2])).length) Slot.unset).toArray = ls at hl ⊢
  have hl : lv_has ls 3 [(0, .ref (q 0)), (1, .int p1), (2, .int p2)] := hl
  unfold fX8_lyndonWords at hf
  refine lv_iload_n hx hb dX8_lyndonWords_0 rfl (lv_at hl 1 rfl) ?_
  refine lv_iconst (v := (1 : Int32)) hx hb dX8_lyndonWords_1 (by decide) ?_
  refine lv_bipush (v := (10 : Int32)) hx hb dX8_lyndonWords_2 (by decide) ?_
  rcases bx_some hf with ⟨e4, hc, hf⟩ | ⟨⟨⟩, hc, hf⟩
  · exact nomatch hf
  try dsimp only at hf
  refine g_call0 (ws' := (w_0 q cI cJ cD)) (st1 := []) hq [0] [] [.inr 0] (va_runS (As := [.int p1, .int (1 : Int32), .int (10 : Int32)]) (rest := []) ⟨hx, hb, hml, hown, hts⟩ (kX8_checkArgument l D cI cJ cD q hq N p1 (1 : Int32) (10 : Int32) hc) (va_cwS 3 hts gX8_lyndonWords_X8_checkArgument rfl rfl rfl (by decide +kernel) ⟨(Nat.le_of_ble_eq_true rfl), (Nat.le_of_ble_eq_true rfl)⟩) ⟨gP_blind, fun U hU hW => ⟨rfl, by rw [hU]; exact hP.sub (ws' := (w_0none q cI cJ cD)) [] rfl, gEv.warm hW hE⟩⟩ rfl rfl hl.1 rfl (lv_room (Nat.le_of_ble_eq_true rfl)) dX8_lyndonWords_4 ⟨Nat.zero_le _, Nat.zero_le _⟩) hP hS (gSub rfl) rfl rfl rfl rfl rfl (fun H locs hP hS => ?_)
  refine lv_iload_n hx hb dX8_lyndonWords_7 rfl (lv_at hl 2 rfl) ?_
  refine lv_iconst (v := (1 : Int32)) hx hb dX8_lyndonWords_8 (by decide) ?_
  refine lv_bipush (v := (12 : Int32)) hx hb dX8_lyndonWords_9 (by decide) ?_
  rcases bx_some hf with ⟨e11, hc, hf⟩ | ⟨⟨⟩, hc, hf⟩
  · exact nomatch hf
  try dsimp only at hf
  refine g_call0 (ws' := (w_0 q cI cJ cD)) (st1 := []) hq [0] [] [.inr 0] (va_runS (As := [.int p2, .int (1 : Int32), .int (12 : Int32)]) (rest := []) ⟨hx, hb, hml, hown, hts⟩ (kX8_checkArgument l D cI cJ cD q hq N p2 (1 : Int32) (12 : Int32) hc) (va_cwS 3 hts gX8_lyndonWords_X8_checkArgument rfl rfl rfl (by decide +kernel) ⟨(Nat.le_of_ble_eq_true rfl), (Nat.le_of_ble_eq_true rfl)⟩) ⟨gP_blind, fun U hU hW => ⟨rfl, by rw [hU]; exact hP.sub (ws' := (w_0none q cI cJ cD)) [] rfl, gEv.warm hW hE⟩⟩ rfl rfl hl.1 rfl (lv_room (Nat.le_of_ble_eq_true rfl)) dX8_lyndonWords_11 ⟨Nat.zero_le _, Nat.zero_le _⟩) hP hS (gSub rfl) rfl rfl rfl rfl rfl (fun H locs hP hS => ?_)
  refine lv_iload_n hx hb dX8_lyndonWords_14 rfl (lv_at hl 1 rfl) ?_
  refine lv_iload_n hx hb dX8_lyndonWords_15 rfl (lv_at hl 2 rfl) ?_
  obtain ⟨r16, hc, hf⟩ := bn_some hf
  try dsimp only at hf
  refine g_call0 (ws' := (w_0 q cI cJ cD)) (st1 := [.long r16]) hq [0] [] [.inr 0] (va_runS (As := [.int p1, .int p2]) (rest := []) ⟨hx, hb, hml, hown, hts⟩ (kX4_lyndonCount l D cI cJ cD q hq N p1 p2 r16 hc) (va_cwS 2 hts gX8_lyndonWords_X4_lyndonCount rfl rfl rfl (by decide +kernel) ⟨(Nat.le_of_ble_eq_true rfl), (Nat.le_of_ble_eq_true rfl)⟩) ⟨gP_blind, fun U hU hW => ⟨rfl, by rw [hU]; exact hP.sub (ws' := (w_0none q cI cJ cD)) [] rfl, gEv.warm hW hE⟩⟩ rfl rfl hl.1 rfl (lv_room (Nat.le_of_ble_eq_true rfl)) dX8_lyndonWords_16 ⟨Nat.zero_le _, Nat.zero_le _⟩) hP hS (gSub rfl) rfl rfl rfl rfl rfl (fun H locs hP hS => ?_)
  cases hf
  exact W.lret hx hb hr (fun t ht hW => ⟨⟨rfl, by rw [ht]; exact hP⟩, hS.F ht⟩) hS.2.2 dX8_lyndonWords_19
set_option maxHeartbeats 4000000 in
set_option maxRecDepth 100000 in
theorem kX8_lyndonWordsx (l : Launch) (hlt : l.stackTraces = false) (D : va_G) (cI cJ cD : ClassId) (sa : Nat → Nat) (q : Nat → Nat) (hq : gInj q) (N : Nat) (p1 : Int32) (p2 : Int32) (e0 : Nat) (hf : fX8_lyndonWords N p1 p2 = some (.inl e0)) : vx_Met l yX8_lyndonWords wsX8_lyndonWords rX8_lyndonWordsx (gPx D cI cJ cD sa (gA q [0]) [.ref (q 0), .int p1, .int p2] (w_0 q cI cJ cD)) (fun _ _ _ _ => False) (gX D (gEn e0) (w_0 q cI cJ cD) (gA q [0])) 1 6 (gA q [0]) := by
  refine vx_ofW (cc := cX8_lyndonWords) (maxL := 3) (ret := (some .long)) (by decide +kernel) rfl ?_
  intro p e s m args below meth c s₁ B hml htab hv
  obtain ⟨rfl, hP, hE, hXe⟩ := hv
  have hx := B.exec
  have hb := B.bytes
  have hr := B.returns
  have hts := atoms_spec (ws := wsX8_lyndonWords) B.pre
  have hown : s.vm.findClass RX8 = some m.cls := findClass_of_methodNamed B.named
  have hlocks := B.notSynchronized
  have hS : va_S (gA q [0]) s.heap s.heap [] := va_S.rf
  have hl := lv_entry ([.ref (q 0), .int p1, .int p2]) (n := 3) (Nat.le_of_ble_eq_true rfl)
  rw [lg_entry_eq]
  generalize (lg_sl ([.ref (q 0), .int p1, .int p2]) ++ List.replicate (3 - (lg_sl ([.ref (q 0), .int p1, .int p2])).length) Slot.unset).toArray = ls at hl ⊢
  have hl : lv_has ls 3 [(0, .ref (q 0)), (1, .int p1), (2, .int p2)] := hl
  unfold fX8_lyndonWords at hf
  refine lv_iload_n hx hb dX8_lyndonWords_0 rfl (lv_at hl 1 rfl) ?_
  refine lv_iconst (v := (1 : Int32)) hx hb dX8_lyndonWords_1 (by decide) ?_
  refine lv_bipush (v := (10 : Int32)) hx hb dX8_lyndonWords_2 (by decide) ?_
  rcases bx_some hf with ⟨e4, hc, hf⟩ | ⟨⟨⟩, hc, hf⟩
  · try dsimp only at hf
    refine g_callX (ws' := (w_0 q cI cJ cD)) hq [0] [] [.inr 0] (vx_runS (As := [.int p1, .int (1 : Int32), .int (10 : Int32)]) (rest := []) ⟨hx, hb, hml, hown, hts⟩ (kX8_checkArgumentx l hlt D cI cJ cD sa q hq N p1 (1 : Int32) (10 : Int32) e4 hc) (va_cwS 3 hts gX8_lyndonWords_X8_checkArgument rfl rfl rfl (by decide +kernel) ⟨(Nat.le_of_ble_eq_true rfl), (Nat.le_of_ble_eq_true rfl)⟩) ⟨gPx_blind, fun U hU hW => ⟨rfl, by rw [hU]; exact hP.sub (ws' := (w_0none q cI cJ cD)) [] rfl, gEv.warm hW hE, gXe.go hW hS (gMono rfl) hXe hU⟩⟩ rfl rfl hl.1 rfl (lv_room (Nat.le_of_ble_eq_true rfl)) dX8_lyndonWords_4 ⟨(Nat.le_of_ble_eq_true rfl), (Nat.le_of_ble_eq_true rfl)⟩) hP hS (gSub rfl) rfl rfl rfl rfl (fun ce q9 H locs hP hS hce hcv hcl => ?_)
    cases hf
    exact vx_out (fun x9 hx9 => (htab x9 hx9).elim) hlocks hce hcv hcl (fun t ht hv => ⟨rfl, by rw [ht]; exact hP, hS.F ht⟩) hS.2.2 (Nat.le_of_ble_eq_true rfl) (Nat.le_of_ble_eq_true rfl)
  try dsimp only at hf
  refine g_call0 (ws' := (w_0 q cI cJ cD)) (st1 := []) hq [0] [] [.inr 0] (va_runS (As := [.int p1, .int (1 : Int32), .int (10 : Int32)]) (rest := []) ⟨hx, hb, hml, hown, hts⟩ (kX8_checkArgument l D cI cJ cD q hq N p1 (1 : Int32) (10 : Int32) hc) (va_cwS 3 hts gX8_lyndonWords_X8_checkArgument rfl rfl rfl (by decide +kernel) ⟨(Nat.le_of_ble_eq_true rfl), (Nat.le_of_ble_eq_true rfl)⟩) ⟨gP_blind, fun U hU hW => ⟨rfl, by rw [hU]; exact hP.sub (ws' := (w_0none q cI cJ cD)) [] rfl, gEv.warm hW hE⟩⟩ rfl rfl hl.1 rfl (lv_room (Nat.le_of_ble_eq_true rfl)) dX8_lyndonWords_4 ⟨Nat.zero_le _, Nat.zero_le _⟩) hP hS (gSub rfl) rfl rfl rfl rfl rfl (fun H locs hP hS => ?_)
  refine lv_iload_n hx hb dX8_lyndonWords_7 rfl (lv_at hl 2 rfl) ?_
  refine lv_iconst (v := (1 : Int32)) hx hb dX8_lyndonWords_8 (by decide) ?_
  refine lv_bipush (v := (12 : Int32)) hx hb dX8_lyndonWords_9 (by decide) ?_
  rcases bx_some hf with ⟨e11, hc, hf⟩ | ⟨⟨⟩, hc, hf⟩
  · try dsimp only at hf
    refine g_callX (ws' := (w_0 q cI cJ cD)) hq [0] [] [.inr 0] (vx_runS (As := [.int p2, .int (1 : Int32), .int (12 : Int32)]) (rest := []) ⟨hx, hb, hml, hown, hts⟩ (kX8_checkArgumentx l hlt D cI cJ cD sa q hq N p2 (1 : Int32) (12 : Int32) e11 hc) (va_cwS 3 hts gX8_lyndonWords_X8_checkArgument rfl rfl rfl (by decide +kernel) ⟨(Nat.le_of_ble_eq_true rfl), (Nat.le_of_ble_eq_true rfl)⟩) ⟨gPx_blind, fun U hU hW => ⟨rfl, by rw [hU]; exact hP.sub (ws' := (w_0none q cI cJ cD)) [] rfl, gEv.warm hW hE, gXe.go hW hS (gMono rfl) hXe hU⟩⟩ rfl rfl hl.1 rfl (lv_room (Nat.le_of_ble_eq_true rfl)) dX8_lyndonWords_11 ⟨(Nat.le_of_ble_eq_true rfl), (Nat.le_of_ble_eq_true rfl)⟩) hP hS (gSub rfl) rfl rfl rfl rfl (fun ce q9 H locs hP hS hce hcv hcl => ?_)
    cases hf
    exact vx_out (fun x9 hx9 => (htab x9 hx9).elim) hlocks hce hcv hcl (fun t ht hv => ⟨rfl, by rw [ht]; exact hP, hS.F ht⟩) hS.2.2 (Nat.le_of_ble_eq_true rfl) (Nat.le_of_ble_eq_true rfl)
  try dsimp only at hf
  refine g_call0 (ws' := (w_0 q cI cJ cD)) (st1 := []) hq [0] [] [.inr 0] (va_runS (As := [.int p2, .int (1 : Int32), .int (12 : Int32)]) (rest := []) ⟨hx, hb, hml, hown, hts⟩ (kX8_checkArgument l D cI cJ cD q hq N p2 (1 : Int32) (12 : Int32) hc) (va_cwS 3 hts gX8_lyndonWords_X8_checkArgument rfl rfl rfl (by decide +kernel) ⟨(Nat.le_of_ble_eq_true rfl), (Nat.le_of_ble_eq_true rfl)⟩) ⟨gP_blind, fun U hU hW => ⟨rfl, by rw [hU]; exact hP.sub (ws' := (w_0none q cI cJ cD)) [] rfl, gEv.warm hW hE⟩⟩ rfl rfl hl.1 rfl (lv_room (Nat.le_of_ble_eq_true rfl)) dX8_lyndonWords_11 ⟨Nat.zero_le _, Nat.zero_le _⟩) hP hS (gSub rfl) rfl rfl rfl rfl rfl (fun H locs hP hS => ?_)
  refine lv_iload_n hx hb dX8_lyndonWords_14 rfl (lv_at hl 1 rfl) ?_
  refine lv_iload_n hx hb dX8_lyndonWords_15 rfl (lv_at hl 2 rfl) ?_
  obtain ⟨r16, hc, hf⟩ := bn_some hf
  try dsimp only at hf
  refine g_call0 (ws' := (w_0 q cI cJ cD)) (st1 := [.long r16]) hq [0] [] [.inr 0] (va_runS (As := [.int p1, .int p2]) (rest := []) ⟨hx, hb, hml, hown, hts⟩ (kX4_lyndonCount l D cI cJ cD q hq N p1 p2 r16 hc) (va_cwS 2 hts gX8_lyndonWords_X4_lyndonCount rfl rfl rfl (by decide +kernel) ⟨(Nat.le_of_ble_eq_true rfl), (Nat.le_of_ble_eq_true rfl)⟩) ⟨gP_blind, fun U hU hW => ⟨rfl, by rw [hU]; exact hP.sub (ws' := (w_0none q cI cJ cD)) [] rfl, gEv.warm hW hE⟩⟩ rfl rfl hl.1 rfl (lv_room (Nat.le_of_ble_eq_true rfl)) dX8_lyndonWords_16 ⟨Nat.zero_le _, Nat.zero_le _⟩) hP hS (gSub rfl) rfl rfl rfl rfl rfl (fun H locs hP hS => ?_)
  exact nomatch hf
set_option maxHeartbeats 4000000 in
set_option maxRecDepth 100000 in
theorem kX8_packedLeastRotation (l : Launch) (D : va_G) (cI cJ cD : ClassId) (q : Nat → Nat) (hq : gInj q) (N : Nat) (Tn : Int32) (Ta : (Nat → Int32)) (p1 : Int32) (p2 : Int32) (r0 : Int32) (hf : fX8_packedLeastRotation N Tn Ta p1 p2 = some r0) : Met l yX8_packedLeastRotation wsX8_packedLeastRotation rX8_packedLeastRotation (gP D cI cJ cD [.ref (q 0), .int p1, .int p2] (w_0_1_2 q cI cJ cD Tn Ta)) (gQ D (some (.int r0)) (w_0_1_2 q cI cJ cD Tn Ta) (gA q [0, 1, 2])) 0 0 (gA q [0, 1, 2]) := by
  refine Met.ofW (cc := cX8_packedLeastRotation) (maxL := 6) (ret := (some .int)) (by decide +kernel) rfl ?_
  intro p e s m args below meth c s₁ B hml hv
  obtain ⟨rfl, hP, hE⟩ := hv
  have hx := B.exec
  have hb := B.bytes
  have hr := B.returns
  have hts := atoms_spec (ws := wsX8_packedLeastRotation) B.pre
  have hown : s.vm.findClass RX8 = some m.cls := findClass_of_methodNamed B.named
  have hlocks := B.notSynchronized
  have hS : va_S (gA q [0, 1, 2]) s.heap s.heap [] := va_S.rf
  have hl := lv_entry ([.ref (q 0), .int p1, .int p2]) (n := 6) (Nat.le_of_ble_eq_true rfl)
  rw [lg_entry_eq]
  generalize (lg_sl ([.ref (q 0), .int p1, .int p2]) ++ List.replicate (6 - (lg_sl ([.ref (q 0), .int p1, .int p2])).length) Slot.unset).toArray = ls at hl ⊢
  have hl : lv_has ls 6 [(0, .ref (q 0)), (1, .int p1), (2, .int p2)] := hl
  have hk10 := hts (.fieldLink RX8 10 "LyndonText" "text" "LLyndonText$Letters;") (by decide +kernel)
  have huX8 : ∀ w ∈ u_ws RX8 TX8 6, w ∈ wsX8_packedLeastRotation := by decide +kernel
  have J50 : ∀ (x4 : Int32), fX8_packedLeastRotation_J50 N Tn Ta x4 = some r0 → ∀ (H : Heap) (locs : List Loc), va_P D vwCl (w_0_1_2 q cI cJ cD Tn Ta) H → va_S (gA q [0, 1, 2]) s.heap H locs → ∀ ls : Array Slot, lv_has ls 6 [(4, .int x4)] → W p l e (headSpec wsX8_packedLeastRotation rX8_packedLeastRotation).room s m ([.ref (q 0), .int p1, .int p2] : List Value).toArray below meth c H locs 0 0 (MQ below (gQ D (some (.int r0)) (w_0_1_2 q cI cJ cD Tn Ta) (gA q [0, 1, 2])) ([.ref (q 0), .int p1, .int p2] : List Value).toArray s 0 0 (gA q [0, 1, 2])) (F0 m 50 ls []) := by
    intro x4 hf H locs hP hS ls hl
    unfold fX8_packedLeastRotation_J50 at hf
    refine lv_iload hx hb dX8_packedLeastRotation_50 (lv_at hl 0 rfl) ?_
    cases hf
    exact W.iret hx hb hr (fun t ht hW => ⟨⟨rfl, by rw [ht]; exact hP⟩, hS.F ht⟩) hS.2.2 dX8_packedLeastRotation_52
  have K16 : ∀ (n16 : Nat) (x1 : Int32) (x2 : Int32) (x3 : Int32) (x4 : Int32) (x5 : Int32), fX8_packedLeastRotation_H16 N Tn Ta n16 x1 x2 x3 x4 x5 = some r0 → ∀ (H : Heap) (locs : List Loc), va_P D vwCl (w_0_1_2 q cI cJ cD Tn Ta) H → va_S (gA q [0, 1, 2]) s.heap H locs → ∀ ls : Array Slot, lv_has ls 6 [(0, .ref (q 0)), (1, .int x1), (2, .int x2), (3, .int x3), (4, .int x4), (5, .int x5)] → W p l e (headSpec wsX8_packedLeastRotation rX8_packedLeastRotation).room s m ([.ref (q 0), .int p1, .int p2] : List Value).toArray below meth c H locs 0 0 (MQ below (gQ D (some (.int r0)) (w_0_1_2 q cI cJ cD Tn Ta) (gA q [0, 1, 2])) ([.ref (q 0), .int p1, .int p2] : List Value).toArray s 0 0 (gA q [0, 1, 2])) (F0 m 16 ls []) := by
    intro n16
    induction n16 with
    | zero =>
      intro x1 x2 x3 x4 x5 hf
      exact nomatch (show (none : Option Int32) = some r0 from hf)
    | succ n16 ih16 =>
      intro x1 x2 x3 x4 x5 hf H locs hP hS ls hl
      have hf : fX8_packedLeastRotation_B16 N Tn Ta (fX8_packedLeastRotation_H16 N Tn Ta n16) x1 x2 x3 x4 x5 = some r0 := hf
      unfold fX8_packedLeastRotation_B16 at hf
      refine lv_iload hx hb dX8_packedLeastRotation_16 (lv_at hl 5 rfl) ?_
      refine lv_iload_n hx hb dX8_packedLeastRotation_18 rfl (lv_at hl 2 rfl) ?_
      refine lv_iload_n hx hb dX8_packedLeastRotation_19 rfl (lv_at hl 1 rfl) ?_
      refine lv_isub hx hb dX8_packedLeastRotation_20 ?_
      refine lv_icmp_ge (tgt := 50) hx hb dX8_packedLeastRotation_21 (by decide) (fun c_1 => ?_) (fun c_1 => ?_)
      · have hf := (if_pos c_1).symm.trans hf
        exact J50 x4 hf _ _ hP hS _ (lv_sub hl [4] rfl)
      · have hf := (if_neg c_1).symm.trans hf
        refine lv_iload hx hb dX8_packedLeastRotation_24 (lv_at hl 4 rfl) ?_
        refine lv_aload_n hx hb dX8_packedLeastRotation_26 rfl (lv_at hl 0 rfl) ?_
        refine va_get (D := D) (ci := 6) (v := .ref (q 1)) (C := RX8) (T := TX8) (N := 6) hx hb hts huX8 hown hE.1 hP 0 rfl rfl 0 (by decide) hk10 (fun _ h9 => h9) rfl dX8_packedLeastRotation_27 ?_
        refine lv_iload_n hx hb dX8_packedLeastRotation_30 rfl (lv_at hl 1 rfl) ?_
        refine lv_iload_n hx hb dX8_packedLeastRotation_31 rfl (lv_at hl 2 rfl) ?_
        refine lv_iload_n hx hb dX8_packedLeastRotation_32 rfl (lv_at hl 3 rfl) ?_
        refine lv_iload hx hb dX8_packedLeastRotation_33 (lv_at hl 5 rfl) ?_
        refine lv_iadd hx hb dX8_packedLeastRotation_35 ?_
        obtain ⟨r36, hc, hf⟩ := bn_some hf
        try dsimp only at hf
        refine g_call0 (ws' := (w_0_1_2 q cI cJ cD Tn Ta)) (st1 := [.int r36, .int x4]) hq [0, 1, 2] [1, 2] [.inr 0, .inl 0, .inl 1] (va_runS (As := [.ref (q 1), .int x1, .int x2, .int (x3 + x5)]) (rest := [.int x4]) ⟨hx, hb, hml, hown, hts⟩ (kX5_letter l D cI cJ cD q hq N Tn Ta x1 x2 (x3 + x5) r36 hc) (va_cwS 4 hts gX8_packedLeastRotation_X5_letter rfl rfl rfl (by decide +kernel) ⟨(Nat.le_of_ble_eq_true rfl), (Nat.le_of_ble_eq_true rfl)⟩) ⟨gP_blind, fun U hU hW => ⟨rfl, by rw [hU]; exact hP.sub (ws' := (w_1_2 q cI cJ cD Tn Ta)) [1, 2] rfl, gEv.warm hW hE⟩⟩ rfl rfl hl.1 rfl (lv_room (Nat.le_of_ble_eq_true rfl)) dX8_packedLeastRotation_36 ⟨Nat.zero_le _, Nat.zero_le _⟩) hP hS (gSub rfl) rfl rfl rfl rfl rfl (fun H locs hP hS => ?_)
        obtain ⟨r39, hc, hf⟩ := bn_some hf
        try dsimp only at hf
        refine g_call0 (ws' := (w_0_1_2 q cI cJ cD Tn Ta)) (st1 := [.int r39]) hq [0, 1, 2] [] [.inr 0, .inr 1, .inr 2] (va_runS (As := [.int x4, .int r36]) (rest := []) ⟨hx, hb, hml, hown, hts⟩ (kX3_pack l D cI cJ cD q hq N x4 r36 r39 hc) (va_cwS 2 hts gX8_packedLeastRotation_X3_pack rfl rfl rfl (by decide +kernel) ⟨(Nat.le_of_ble_eq_true rfl), (Nat.le_of_ble_eq_true rfl)⟩) ⟨gP_blind, fun U hU hW => ⟨rfl, by rw [hU]; exact hP.sub (ws' := (w_0none q cI cJ cD)) [] rfl, gEv.warm hW hE⟩⟩ rfl rfl hl.1 rfl (lv_room (Nat.le_of_ble_eq_true rfl)) dX8_packedLeastRotation_39 ⟨Nat.zero_le _, Nat.zero_le _⟩) hP hS (gSub rfl) rfl rfl rfl rfl rfl (fun H locs hP hS => ?_)
        refine lv_istore (lv' := [(4, .int r39), (0, .ref (q 0)), (1, .int x1), (2, .int x2), (3, .int x3), (5, .int x5)]) hx hb dX8_packedLeastRotation_42 hl (by decide) rfl (fun ls hl => ?_)
        refine lv_iinc (v := (x5 + 1)) (lv' := [(5, .int (x5 + 1)), (4, .int r39), (0, .ref (q 0)), (1, .int x1), (2, .int x2), (3, .int x3)]) hx hb dX8_packedLeastRotation_44 hl (k := 5) rfl rfl (by decide) rfl (fun ls hl => ?_)
        refine lv_goto (tgt := 16) hx hb dX8_packedLeastRotation_47 (by decide) ?_
        exact ih16 x1 x2 x3 r39 (x5 + 1) hf _ _ hP hS _ (lv_sub hl [2, 3, 4, 5, 1, 0] rfl)
  unfold fX8_packedLeastRotation at hf
  refine lv_aload_n hx hb dX8_packedLeastRotation_0 rfl (lv_at hl 0 rfl) ?_
  refine va_get (D := D) (ci := 6) (v := .ref (q 1)) (C := RX8) (T := TX8) (N := 6) hx hb hts huX8 hown hE.1 hP 0 rfl rfl 0 (by decide) hk10 (fun _ h9 => h9) rfl dX8_packedLeastRotation_1 ?_
  refine lv_iload_n hx hb dX8_packedLeastRotation_4 rfl (lv_at hl 1 rfl) ?_
  refine lv_iload_n hx hb dX8_packedLeastRotation_5 rfl (lv_at hl 2 rfl) ?_
  obtain ⟨r6, hc, hf⟩ := bn_some hf
  try dsimp only at hf
  refine g_call0 (ws' := (w_0_1_2 q cI cJ cD Tn Ta)) (st1 := [.int r6]) hq [0, 1, 2] [1, 2] [.inr 0, .inl 0, .inl 1] (va_runS (As := [.ref (q 1), .int p1, .int p2]) (rest := []) ⟨hx, hb, hml, hown, hts⟩ (kX5_least l D cI cJ cD q hq N Tn Ta p1 p2 r6 hc) (va_cwS 3 hts gX8_packedLeastRotation_X5_least rfl rfl rfl (by decide +kernel) ⟨(Nat.le_of_ble_eq_true rfl), (Nat.le_of_ble_eq_true rfl)⟩) ⟨gP_blind, fun U hU hW => ⟨rfl, by rw [hU]; exact hP.sub (ws' := (w_1_2 q cI cJ cD Tn Ta)) [1, 2] rfl, gEv.warm hW hE⟩⟩ rfl rfl hl.1 rfl (lv_room (Nat.le_of_ble_eq_true rfl)) dX8_packedLeastRotation_6 ⟨Nat.zero_le _, Nat.zero_le _⟩) hP hS (gSub rfl) rfl rfl rfl rfl rfl (fun H locs hP hS => ?_)
  refine lv_istore_n (lv' := [(3, .int r6), (0, .ref (q 0)), (1, .int p1), (2, .int p2)]) hx hb dX8_packedLeastRotation_9 rfl hl (by decide) rfl (fun ls hl => ?_)
  refine lv_iconst (v := (0 : Int32)) hx hb dX8_packedLeastRotation_10 (by decide) ?_
  refine lv_istore (lv' := [(4, .int (0 : Int32)), (3, .int r6), (0, .ref (q 0)), (1, .int p1), (2, .int p2)]) hx hb dX8_packedLeastRotation_11 hl (by decide) rfl (fun ls hl => ?_)
  refine lv_iconst (v := (0 : Int32)) hx hb dX8_packedLeastRotation_13 (by decide) ?_
  refine lv_istore (lv' := [(5, .int (0 : Int32)), (4, .int (0 : Int32)), (3, .int r6), (0, .ref (q 0)), (1, .int p1), (2, .int p2)]) hx hb dX8_packedLeastRotation_14 hl (by decide) rfl (fun ls hl => ?_)
  exact K16 N p1 p2 r6 (0 : Int32) (0 : Int32) hf _ _ hP hS _ (lv_sub hl [3, 4, 5, 2, 1, 0] rfl)
set_option maxHeartbeats 4000000 in
set_option maxRecDepth 100000 in
theorem kX8_necklaceNumber (l : Launch) (D : va_G) (cI cJ cD : ClassId) (q : Nat → Nat) (hq : gInj q) (N : Nat) (Tn : Int32) (Ta : (Nat → Int32)) (Wg : Int32) (Wz : Int32) (Ww : Int32) (Wr : Int32) (p1 : Int32) (p2 : Int32) (p3 : Int32) (r0 : Int32) (Wg9 : Int32) (Wz9 : Int32) (Ww9 : Int32) (Wr9 : Int32) (hf : fX8_necklaceNumber N Tn Ta Wg Wz Ww Wr p1 p2 p3 = some (.inr (r0, Wg9, Wz9, Ww9, Wr9))) : Met l yX8_necklaceNumber wsX8_necklaceNumber rX8_necklaceNumber (gP D cI cJ cD [.ref (q 0), .int p1, .int p2, .int p3] (w_0_1_2_13 q cI cJ cD Tn Ta Wg Wz Ww Wr)) (gQ D (some (.int r0)) (w_0_1_2_13 q cI cJ cD Tn Ta Wg9 Wz9 Ww9 Wr9) (gA q [0, 1, 2, 13])) 0 0 (gA q [0, 1, 2, 13]) := by
  refine Met.ofW (cc := cX8_necklaceNumber) (maxL := 4) (ret := (some .int)) (by decide +kernel) rfl ?_
  intro p e s m args below meth c s₁ B hml hv
  obtain ⟨rfl, hP, hE⟩ := hv
  have hx := B.exec
  have hb := B.bytes
  have hr := B.returns
  have hts := atoms_spec (ws := wsX8_necklaceNumber) B.pre
  have hown : s.vm.findClass RX8 = some m.cls := findClass_of_methodNamed B.named
  have hlocks := B.notSynchronized
  have hS : va_S (gA q [0, 1, 2, 13]) s.heap s.heap [] := va_S.rf
  have hl := lv_entry ([.ref (q 0), .int p1, .int p2, .int p3]) (n := 4) (Nat.le_of_ble_eq_true rfl)
  rw [lg_entry_eq]
  generalize (lg_sl ([.ref (q 0), .int p1, .int p2, .int p3]) ++ List.replicate (4 - (lg_sl ([.ref (q 0), .int p1, .int p2, .int p3])).length) Slot.unset).toArray = ls at hl ⊢
  have hl : lv_has ls 4 [(0, .ref (q 0)), (1, .int p1), (2, .int p2), (3, .int p3)] := hl
  have hk10 := hts (.fieldLink RX8 10 "LyndonText" "text" "LLyndonText$Letters;") (by decide +kernel)
  have hk47 := hts (.fieldLink RX8 47 "LyndonText" "walk" "LLyndonText$NecklaceWalk;") (by decide +kernel)
  have huX8 : ∀ w ∈ u_ws RX8 TX8 6, w ∈ wsX8_necklaceNumber := by decide +kernel
  have J33 : ∀ (Wg : Int32) (Wz : Int32) (Ww : Int32) (Wr : Int32), fX8_necklaceNumber_J33 N Tn Ta Wg Wz Ww Wr = some (.inr (r0, Wg9, Wz9, Ww9, Wr9)) → ∀ (H : Heap) (locs : List Loc), va_P D vwCl (w_0_1_2_13 q cI cJ cD Tn Ta Wg Wz Ww Wr) H → va_S (gA q [0, 1, 2, 13]) s.heap H locs → ∀ ls : Array Slot, lv_has ls 4 [] → W p l e (headSpec wsX8_necklaceNumber rX8_necklaceNumber).room s m ([.ref (q 0), .int p1, .int p2, .int p3] : List Value).toArray below meth c H locs 0 0 (MQ below (gQ D (some (.int r0)) (w_0_1_2_13 q cI cJ cD Tn Ta Wg9 Wz9 Ww9 Wr9) (gA q [0, 1, 2, 13])) ([.ref (q 0), .int p1, .int p2, .int p3] : List Value).toArray s 0 0 (gA q [0, 1, 2, 13])) (F0 m 33 ls []) := by
    intro Wg Wz Ww Wr hf H locs hP hS ls hl
    unfold fX8_necklaceNumber_J33 at hf
    exact nomatch hf
  unfold fX8_necklaceNumber at hf
  refine lv_aload_n hx hb dX8_necklaceNumber_0 rfl (lv_at hl 0 rfl) ?_
  refine lv_iload_n hx hb dX8_necklaceNumber_1 rfl (lv_at hl 1 rfl) ?_
  refine lv_iload_n hx hb dX8_necklaceNumber_2 rfl (lv_at hl 2 rfl) ?_
  rcases bx_some hf with ⟨e3, hc, hf⟩ | ⟨⟨⟩, hc, hf⟩
  · exact nomatch hf
  try dsimp only at hf
  refine g_call0 (ws' := (w_0_1_2_13 q cI cJ cD Tn Ta Wg Wz Ww Wr)) (st1 := []) hq [0, 1, 2, 13] [0, 1] [.inl 0, .inl 1, .inr 2, .inr 3] (va_runV (As := [.int p1, .int p2]) (rest := []) ⟨hx, hb, hml, hown, hts⟩ (kX8_checkPart l D cI cJ cD q hq N Tn p1 p2 hc) (cwV 2 hts gX8_necklaceNumber_X8_checkPart rfl rfl rfl (by decide +kernel) ⟨(Nat.le_of_ble_eq_true rfl), (Nat.le_of_ble_eq_true rfl)⟩) ⟨gP_blind, va_recv hE.1 hP (ci := 6) (q0 := 0) rfl rfl, fun U hU hW => ⟨rfl, by rw [hU]; exact hP.sub (ws' := (w_0_1 q cI cJ cD Tn)) [0, 1] rfl, gEv.warm hW hE⟩⟩ rfl rfl hl.1 rfl (lv_room (Nat.le_of_ble_eq_true rfl)) dX8_necklaceNumber_3 ⟨Nat.zero_le _, Nat.zero_le _⟩) hP hS (gSub rfl) rfl rfl rfl rfl rfl (fun H locs hP hS => ?_)
  refine lv_iload_n hx hb dX8_necklaceNumber_6 rfl (lv_at hl 3 rfl) ?_
  refine lv_iconst (v := (1 : Int32)) hx hb dX8_necklaceNumber_7 (by decide) ?_
  refine lv_iconst (v := (4 : Int32)) hx hb dX8_necklaceNumber_8 (by decide) ?_
  rcases bx_some hf with ⟨e9, hc, hf⟩ | ⟨⟨⟩, hc, hf⟩
  · exact nomatch hf
  try dsimp only at hf
  refine g_call0 (ws' := (w_0_1_2_13 q cI cJ cD Tn Ta Wg Wz Ww Wr)) (st1 := []) hq [0, 1, 2, 13] [] [.inr 0, .inr 1, .inr 2, .inr 3] (va_runS (As := [.int p3, .int (1 : Int32), .int (4 : Int32)]) (rest := []) ⟨hx, hb, hml, hown, hts⟩ (kX8_checkArgument l D cI cJ cD q hq N p3 (1 : Int32) (4 : Int32) hc) (va_cwS 3 hts gX8_necklaceNumber_X8_checkArgument rfl rfl rfl (by decide +kernel) ⟨(Nat.le_of_ble_eq_true rfl), (Nat.le_of_ble_eq_true rfl)⟩) ⟨gP_blind, fun U hU hW => ⟨rfl, by rw [hU]; exact hP.sub (ws' := (w_0none q cI cJ cD)) [] rfl, gEv.warm hW hE⟩⟩ rfl rfl hl.1 rfl (lv_room (Nat.le_of_ble_eq_true rfl)) dX8_necklaceNumber_9 ⟨Nat.zero_le _, Nat.zero_le _⟩) hP hS (gSub rfl) rfl rfl rfl rfl rfl (fun H locs hP hS => ?_)
  refine lv_iload_n hx hb dX8_necklaceNumber_12 rfl (lv_at hl 2 rfl) ?_
  refine lv_iload_n hx hb dX8_necklaceNumber_13 rfl (lv_at hl 1 rfl) ?_
  refine lv_isub hx hb dX8_necklaceNumber_14 ?_
  refine lv_bipush (v := (8 : Int32)) hx hb dX8_necklaceNumber_15 (by decide) ?_
  refine lv_icmp_gt (tgt := 33) hx hb dX8_necklaceNumber_17 (by decide) (fun c_1 => ?_) (fun c_1 => ?_)
  · have hf := (if_pos c_1).symm.trans hf
    exact J33 Wg Wz Ww Wr hf _ _ hP hS _ (lv_sub hl [] rfl)
  · have hf := (if_neg c_1).symm.trans hf
    refine lv_aload_n hx hb dX8_necklaceNumber_20 rfl (lv_at hl 0 rfl) ?_
    refine va_get (D := D) (ci := 6) (v := .ref (q 1)) (C := RX8) (T := TX8) (N := 6) hx hb hts huX8 hown hE.1 hP 0 rfl rfl 0 (by decide) hk10 (fun _ h9 => h9) rfl dX8_necklaceNumber_21 ?_
    refine lv_iload_n hx hb dX8_necklaceNumber_24 rfl (lv_at hl 1 rfl) ?_
    refine lv_iload_n hx hb dX8_necklaceNumber_25 rfl (lv_at hl 2 rfl) ?_
    obtain ⟨r26, hc, hf⟩ := bn_some hf
    try dsimp only at hf
    refine g_call0 (ws' := (w_0_1_2_13 q cI cJ cD Tn Ta Wg Wz Ww Wr)) (st1 := [.int r26]) hq [0, 1, 2, 13] [1, 2] [.inr 0, .inl 0, .inl 1, .inr 3] (va_runV (As := [.int p1, .int p2]) (rest := []) ⟨hx, hb, hml, hown, hts⟩ (kX2_greatestLetter l D cI cJ cD q hq N Tn Ta p1 p2 r26 hc) (cwV 2 hts gX8_necklaceNumber_X2_greatestLetter rfl rfl rfl (by decide +kernel) ⟨(Nat.le_of_ble_eq_true rfl), (Nat.le_of_ble_eq_true rfl)⟩) ⟨gP_blind, va_recv hE.1 hP (ci := 2) (q0 := 1) rfl rfl, fun U hU hW => ⟨rfl, by rw [hU]; exact hP.sub (ws' := (w_1_2 q cI cJ cD Tn Ta)) [1, 2] rfl, gEv.warm hW hE⟩⟩ rfl rfl hl.1 rfl (lv_room (Nat.le_of_ble_eq_true rfl)) dX8_necklaceNumber_26 ⟨Nat.zero_le _, Nat.zero_le _⟩) hP hS (gSub rfl) rfl rfl rfl rfl rfl (fun H locs hP hS => ?_)
    refine lv_iload_n hx hb dX8_necklaceNumber_29 rfl (lv_at hl 3 rfl) ?_
    refine lv_icmp_lt (tgt := 43) hx hb dX8_necklaceNumber_30 (by decide) (fun c_2 => ?_) (fun c_2 => ?_)
    · have hf := (if_pos c_2).symm.trans hf
      refine lv_aload_n hx hb dX8_necklaceNumber_43 rfl (lv_at hl 0 rfl) ?_
      refine va_get (D := D) (ci := 6) (v := .ref (q 13)) (C := RX8) (T := TX8) (N := 6) hx hb hts huX8 hown hE.1 hP 0 rfl rfl 5 (by decide) hk47 (fun _ h9 => h9) rfl dX8_necklaceNumber_44 ?_
      refine lv_iload_n hx hb dX8_necklaceNumber_47 rfl (lv_at hl 3 rfl) ?_
      refine lv_iload_n hx hb dX8_necklaceNumber_48 rfl (lv_at hl 2 rfl) ?_
      refine lv_iload_n hx hb dX8_necklaceNumber_49 rfl (lv_at hl 1 rfl) ?_
      refine lv_isub hx hb dX8_necklaceNumber_50 ?_
      obtain ⟨⟨Wg51, Wz51, Ww51, Wr51⟩, hc, hf⟩ := bn_some hf
      try dsimp only at hf
      refine g_call0 (ws' := (w_0_1_2_13 q cI cJ cD Tn Ta Wg51 Wz51 Ww51 Wr51)) (st1 := []) hq [0, 1, 2, 13] [13] [.inr 0, .inr 1, .inr 2, .inl 0] (va_runV (As := [.int p3, .int (p2 - p1)]) (rest := []) ⟨hx, hb, hml, hown, hts⟩ (kX3_begin l D cI cJ cD q hq N Wg Wz Ww Wr p3 (p2 - p1) Wg51 Wz51 Ww51 Wr51 hc) (cwV 2 hts gX8_necklaceNumber_X3_begin rfl rfl rfl (by decide +kernel) ⟨(Nat.le_of_ble_eq_true rfl), (Nat.le_of_ble_eq_true rfl)⟩) ⟨gP_blind, va_recv hE.1 hP (ci := 3) (q0 := 3) rfl rfl, fun U hU hW => ⟨rfl, by rw [hU]; exact hP.sub (ws' := (w_13 q cI cJ cD Wg Wz Ww Wr)) [3] rfl, gEv.warm hW hE⟩⟩ rfl rfl hl.1 rfl (lv_room (Nat.le_of_ble_eq_true rfl)) dX8_necklaceNumber_51 ⟨Nat.zero_le _, Nat.zero_le _⟩) hP hS (gSub rfl) rfl rfl rfl rfl rfl (fun H locs hP hS => ?_)
      refine lv_aload_n hx hb dX8_necklaceNumber_54 rfl (lv_at hl 0 rfl) ?_
      refine va_get (D := D) (ci := 6) (v := .ref (q 13)) (C := RX8) (T := TX8) (N := 6) hx hb hts huX8 hown hE.1 hP 0 rfl rfl 5 (by decide) hk47 (fun _ h9 => h9) rfl dX8_necklaceNumber_55 ?_
      refine lv_aload_n hx hb dX8_necklaceNumber_58 rfl (lv_at hl 0 rfl) ?_
      refine lv_iload_n hx hb dX8_necklaceNumber_59 rfl (lv_at hl 1 rfl) ?_
      refine lv_iload_n hx hb dX8_necklaceNumber_60 rfl (lv_at hl 2 rfl) ?_
      obtain ⟨r61, hc, hf⟩ := bn_some hf
      try dsimp only at hf
      refine g_call0 (ws' := (w_0_1_2_13 q cI cJ cD Tn Ta Wg51 Wz51 Ww51 Wr51)) (st1 := [.int r61, .ref (q 13)]) hq [0, 1, 2, 13] [0, 1, 2] [.inl 0, .inl 1, .inl 2, .inr 3] (va_runV (As := [.int p1, .int p2]) (rest := [.ref (q 13)]) ⟨hx, hb, hml, hown, hts⟩ (kX8_packedLeastRotation l D cI cJ cD q hq N Tn Ta p1 p2 r61 hc) (cwV 2 hts gX8_necklaceNumber_X8_packedLeastRotation rfl rfl rfl (by decide +kernel) ⟨(Nat.le_of_ble_eq_true rfl), (Nat.le_of_ble_eq_true rfl)⟩) ⟨gP_blind, va_recv hE.1 hP (ci := 6) (q0 := 0) rfl rfl, fun U hU hW => ⟨rfl, by rw [hU]; exact hP.sub (ws' := (w_0_1_2 q cI cJ cD Tn Ta)) [0, 1, 2] rfl, gEv.warm hW hE⟩⟩ rfl rfl hl.1 rfl (lv_room (Nat.le_of_ble_eq_true rfl)) dX8_necklaceNumber_61 ⟨Nat.zero_le _, Nat.zero_le _⟩) hP hS (gSub rfl) rfl rfl rfl rfl rfl (fun H locs hP hS => ?_)
      obtain ⟨⟨r64, Ww64, Wr64⟩, hc, hf⟩ := bn_some hf
      try dsimp only at hf
      refine g_call0 (ws' := (w_0_1_2_13 q cI cJ cD Tn Ta Wg51 Wz51 Ww64 Wr64)) (st1 := [.int r64]) hq [0, 1, 2, 13] [13] [.inr 0, .inr 1, .inr 2, .inl 0] (va_runV (As := [.int r61]) (rest := []) ⟨hx, hb, hml, hown, hts⟩ (kX3_countAhead l D cI cJ cD q hq N Wg51 Wz51 Ww51 Wr51 r61 r64 Ww64 Wr64 hc) (cwV 1 hts gX8_necklaceNumber_X3_countAhead rfl rfl rfl (by decide +kernel) ⟨(Nat.le_of_ble_eq_true rfl), (Nat.le_of_ble_eq_true rfl)⟩) ⟨gP_blind, va_recv hE.1 hP (ci := 3) (q0 := 3) rfl rfl, fun U hU hW => ⟨rfl, by rw [hU]; exact hP.sub (ws' := (w_13 q cI cJ cD Wg51 Wz51 Ww51 Wr51)) [3] rfl, gEv.warm hW hE⟩⟩ rfl rfl hl.1 rfl (lv_room (Nat.le_of_ble_eq_true rfl)) dX8_necklaceNumber_64 ⟨Nat.zero_le _, Nat.zero_le _⟩) hP hS (gSub rfl) rfl rfl rfl rfl rfl (fun H locs hP hS => ?_)
      cases hf
      exact W.iret hx hb hr (fun t ht hW => ⟨⟨rfl, by rw [ht]; exact hP⟩, hS.F ht⟩) hS.2.2 dX8_necklaceNumber_67
    · have hf := (if_neg c_2).symm.trans hf
      exact J33 Wg Wz Ww Wr hf _ _ hP hS _ (lv_sub hl [] rfl)
set_option maxHeartbeats 4000000 in
set_option maxRecDepth 100000 in
theorem kX8_necklaceNumberx (l : Launch) (hlt : l.stackTraces = false) (D : va_G) (cI cJ cD : ClassId) (sa : Nat → Nat) (q : Nat → Nat) (hq : gInj q) (N : Nat) (Tn : Int32) (Ta : (Nat → Int32)) (Wg : Int32) (Wz : Int32) (Ww : Int32) (Wr : Int32) (p1 : Int32) (p2 : Int32) (p3 : Int32) (e0 : Nat) (Wg9 : Int32) (Wz9 : Int32) (Ww9 : Int32) (Wr9 : Int32) (hf : fX8_necklaceNumber N Tn Ta Wg Wz Ww Wr p1 p2 p3 = some (.inl (e0, Wg9, Wz9, Ww9, Wr9))) : vx_Met l yX8_necklaceNumber wsX8_necklaceNumber rX8_necklaceNumberx (gPx D cI cJ cD sa (gA q [0, 1, 2, 13]) [.ref (q 0), .int p1, .int p2, .int p3] (w_0_1_2_13 q cI cJ cD Tn Ta Wg Wz Ww Wr)) (fun _ _ _ _ => False) (gX D (gEn e0) (w_0_1_2_13 q cI cJ cD Tn Ta Wg9 Wz9 Ww9 Wr9) (gA q [0, 1, 2, 13])) 1 6 (gA q [0, 1, 2, 13]) := by
  refine vx_ofW (cc := cX8_necklaceNumber) (maxL := 4) (ret := (some .int)) (by decide +kernel) rfl ?_
  intro p e s m args below meth c s₁ B hml htab hv
  obtain ⟨rfl, hP, hE, hXe⟩ := hv
  have hx := B.exec
  have hb := B.bytes
  have hr := B.returns
  have hts := atoms_spec (ws := wsX8_necklaceNumber) B.pre
  have hown : s.vm.findClass RX8 = some m.cls := findClass_of_methodNamed B.named
  have hlocks := B.notSynchronized
  have hS : va_S (gA q [0, 1, 2, 13]) s.heap s.heap [] := va_S.rf
  have hl := lv_entry ([.ref (q 0), .int p1, .int p2, .int p3]) (n := 4) (Nat.le_of_ble_eq_true rfl)
  rw [lg_entry_eq]
  generalize (lg_sl ([.ref (q 0), .int p1, .int p2, .int p3]) ++ List.replicate (4 - (lg_sl ([.ref (q 0), .int p1, .int p2, .int p3])).length) Slot.unset).toArray = ls at hl ⊢
  have hl : lv_has ls 4 [(0, .ref (q 0)), (1, .int p1), (2, .int p2), (3, .int p3)] := hl
  have hk10 := hts (.fieldLink RX8 10 "LyndonText" "text" "LLyndonText$Letters;") (by decide +kernel)
  have hk47 := hts (.fieldLink RX8 47 "LyndonText" "walk" "LLyndonText$NecklaceWalk;") (by decide +kernel)
  have huX8 : ∀ w ∈ u_ws RX8 TX8 6, w ∈ wsX8_necklaceNumber := by decide +kernel
  have J33 : ∀ (Wg : Int32) (Wz : Int32) (Ww : Int32) (Wr : Int32), fX8_necklaceNumber_J33 N Tn Ta Wg Wz Ww Wr = some (.inl (e0, Wg9, Wz9, Ww9, Wr9)) → ∀ (H : Heap) (locs : List Loc), va_P D vwCl (w_0_1_2_13 q cI cJ cD Tn Ta Wg Wz Ww Wr) H → va_S (gA q [0, 1, 2, 13]) s.heap H locs → ∀ ls : Array Slot, lv_has ls 4 [] → W p l e (headSpec wsX8_necklaceNumber rX8_necklaceNumberx).room s m ([.ref (q 0), .int p1, .int p2, .int p3] : List Value).toArray below meth c H locs 0 0 (vx_MQ below (fun _ _ _ _ => False) (gX D (gEn e0) (w_0_1_2_13 q cI cJ cD Tn Ta Wg9 Wz9 Ww9 Wr9) (gA q [0, 1, 2, 13])) ([.ref (q 0), .int p1, .int p2, .int p3] : List Value).toArray s 1 6 (gA q [0, 1, 2, 13])) (F0 m 33 ls []) := by
    intro Wg Wz Ww Wr hf H locs hP hS ls hl
    unfold fX8_necklaceNumber_J33 at hf
    cases hf
    exact vx_throwS (own := RX8) (cls := "java/lang/IllegalStateException") (text := "the part has more than 8 letters, or one that is not among these") (names := ["java/lang/RuntimeException", "java/lang/Exception"]) (ik := 89) (is := 224) (ic := 93) (sa := sa 224) (A := (gA q [0, 1, 2, 13])) hx hb hlt hown (by decide +kernel) (by decide +kernel) (hts (.classLink RX8 89 "java/lang/IllegalStateException") (by decide +kernel)) (hts (.initialized "java/lang/IllegalStateException") (by decide +kernel)) (hXe.1.1 (224, "the part has more than 8 letters, or one that is not among these") (by decide +kernel)) (vx_hat (B := gB "java/lang/IllegalStateException") (fun w h => hts w (gw_X8_necklaceNumber_33 w h)) (gwB_X8_necklaceNumber_33) (gB_ok hXe.1 (cls := "java/lang/IllegalStateException") (by decide +kernel))) (gwg_X8_necklaceNumber_33) hXe.2.1 hXe.2.2 hS (hl.1.trans hml.symm) dX8_necklaceNumber_33 dX8_necklaceNumber_36 dX8_necklaceNumber_37 dX8_necklaceNumber_39 dX8_necklaceNumber_42 (fun x9 hx9 => (htab x9 hx9).elim) (Nat.le_of_ble_eq_true rfl) (Nat.le_of_ble_eq_true rfl) (Nat.le_of_ble_eq_true rfl) (Nat.le_of_ble_eq_true rfl) hlocks (fun t hv hz hk => ⟨rfl, hP.kept (fun k9 x9 hx9 => hk x9.1 ((hP k9 x9 hx9).lt)), ⟨Nat.le_trans hS.1 hz, fun a9 h1 hn => (hk a9 (Nat.lt_of_lt_of_le h1 hS.1)).trans (hS.2.1 a9 h1 hn)⟩⟩) hS.2.2 (Nat.le_of_ble_eq_true rfl) (Nat.le_of_ble_eq_true rfl)
  unfold fX8_necklaceNumber at hf
  refine lv_aload_n hx hb dX8_necklaceNumber_0 rfl (lv_at hl 0 rfl) ?_
  refine lv_iload_n hx hb dX8_necklaceNumber_1 rfl (lv_at hl 1 rfl) ?_
  refine lv_iload_n hx hb dX8_necklaceNumber_2 rfl (lv_at hl 2 rfl) ?_
  rcases bx_some hf with ⟨e3, hc, hf⟩ | ⟨⟨⟩, hc, hf⟩
  · try dsimp only at hf
    refine g_callX (ws' := (w_0_1_2_13 q cI cJ cD Tn Ta Wg Wz Ww Wr)) hq [0, 1, 2, 13] [0, 1] [.inl 0, .inl 1, .inr 2, .inr 3] (vx_runV (As := [.int p1, .int p2]) (rest := []) ⟨hx, hb, hml, hown, hts⟩ (kX8_checkPartx l hlt D cI cJ cD sa q hq N Tn p1 p2 e3 hc) (cwV 2 hts gX8_necklaceNumber_X8_checkPart rfl rfl rfl (by decide +kernel) ⟨(Nat.le_of_ble_eq_true rfl), (Nat.le_of_ble_eq_true rfl)⟩) ⟨gPx_blind, va_recv hE.1 hP (ci := 6) (q0 := 0) rfl rfl, fun U hU hW => ⟨rfl, by rw [hU]; exact hP.sub (ws' := (w_0_1 q cI cJ cD Tn)) [0, 1] rfl, gEv.warm hW hE, gXe.go hW hS (gMono rfl) hXe hU⟩⟩ rfl rfl hl.1 rfl (lv_room (Nat.le_of_ble_eq_true rfl)) dX8_necklaceNumber_3 ⟨(Nat.le_of_ble_eq_true rfl), (Nat.le_of_ble_eq_true rfl)⟩) hP hS (gSub rfl) rfl rfl rfl rfl (fun ce q9 H locs hP hS hce hcv hcl => ?_)
    cases hf
    exact vx_out (fun x9 hx9 => (htab x9 hx9).elim) hlocks hce hcv hcl (fun t ht hv => ⟨rfl, by rw [ht]; exact hP, hS.F ht⟩) hS.2.2 (Nat.le_of_ble_eq_true rfl) (Nat.le_of_ble_eq_true rfl)
  try dsimp only at hf
  refine g_call0 (ws' := (w_0_1_2_13 q cI cJ cD Tn Ta Wg Wz Ww Wr)) (st1 := []) hq [0, 1, 2, 13] [0, 1] [.inl 0, .inl 1, .inr 2, .inr 3] (va_runV (As := [.int p1, .int p2]) (rest := []) ⟨hx, hb, hml, hown, hts⟩ (kX8_checkPart l D cI cJ cD q hq N Tn p1 p2 hc) (cwV 2 hts gX8_necklaceNumber_X8_checkPart rfl rfl rfl (by decide +kernel) ⟨(Nat.le_of_ble_eq_true rfl), (Nat.le_of_ble_eq_true rfl)⟩) ⟨gP_blind, va_recv hE.1 hP (ci := 6) (q0 := 0) rfl rfl, fun U hU hW => ⟨rfl, by rw [hU]; exact hP.sub (ws' := (w_0_1 q cI cJ cD Tn)) [0, 1] rfl, gEv.warm hW hE⟩⟩ rfl rfl hl.1 rfl (lv_room (Nat.le_of_ble_eq_true rfl)) dX8_necklaceNumber_3 ⟨Nat.zero_le _, Nat.zero_le _⟩) hP hS (gSub rfl) rfl rfl rfl rfl rfl (fun H locs hP hS => ?_)
  refine lv_iload_n hx hb dX8_necklaceNumber_6 rfl (lv_at hl 3 rfl) ?_
  refine lv_iconst (v := (1 : Int32)) hx hb dX8_necklaceNumber_7 (by decide) ?_
  refine lv_iconst (v := (4 : Int32)) hx hb dX8_necklaceNumber_8 (by decide) ?_
  rcases bx_some hf with ⟨e9, hc, hf⟩ | ⟨⟨⟩, hc, hf⟩
  · try dsimp only at hf
    refine g_callX (ws' := (w_0_1_2_13 q cI cJ cD Tn Ta Wg Wz Ww Wr)) hq [0, 1, 2, 13] [] [.inr 0, .inr 1, .inr 2, .inr 3] (vx_runS (As := [.int p3, .int (1 : Int32), .int (4 : Int32)]) (rest := []) ⟨hx, hb, hml, hown, hts⟩ (kX8_checkArgumentx l hlt D cI cJ cD sa q hq N p3 (1 : Int32) (4 : Int32) e9 hc) (va_cwS 3 hts gX8_necklaceNumber_X8_checkArgument rfl rfl rfl (by decide +kernel) ⟨(Nat.le_of_ble_eq_true rfl), (Nat.le_of_ble_eq_true rfl)⟩) ⟨gPx_blind, fun U hU hW => ⟨rfl, by rw [hU]; exact hP.sub (ws' := (w_0none q cI cJ cD)) [] rfl, gEv.warm hW hE, gXe.go hW hS (gMono rfl) hXe hU⟩⟩ rfl rfl hl.1 rfl (lv_room (Nat.le_of_ble_eq_true rfl)) dX8_necklaceNumber_9 ⟨(Nat.le_of_ble_eq_true rfl), (Nat.le_of_ble_eq_true rfl)⟩) hP hS (gSub rfl) rfl rfl rfl rfl (fun ce q9 H locs hP hS hce hcv hcl => ?_)
    cases hf
    exact vx_out (fun x9 hx9 => (htab x9 hx9).elim) hlocks hce hcv hcl (fun t ht hv => ⟨rfl, by rw [ht]; exact hP, hS.F ht⟩) hS.2.2 (Nat.le_of_ble_eq_true rfl) (Nat.le_of_ble_eq_true rfl)
  try dsimp only at hf
  refine g_call0 (ws' := (w_0_1_2_13 q cI cJ cD Tn Ta Wg Wz Ww Wr)) (st1 := []) hq [0, 1, 2, 13] [] [.inr 0, .inr 1, .inr 2, .inr 3] (va_runS (As := [.int p3, .int (1 : Int32), .int (4 : Int32)]) (rest := []) ⟨hx, hb, hml, hown, hts⟩ (kX8_checkArgument l D cI cJ cD q hq N p3 (1 : Int32) (4 : Int32) hc) (va_cwS 3 hts gX8_necklaceNumber_X8_checkArgument rfl rfl rfl (by decide +kernel) ⟨(Nat.le_of_ble_eq_true rfl), (Nat.le_of_ble_eq_true rfl)⟩) ⟨gP_blind, fun U hU hW => ⟨rfl, by rw [hU]; exact hP.sub (ws' := (w_0none q cI cJ cD)) [] rfl, gEv.warm hW hE⟩⟩ rfl rfl hl.1 rfl (lv_room (Nat.le_of_ble_eq_true rfl)) dX8_necklaceNumber_9 ⟨Nat.zero_le _, Nat.zero_le _⟩) hP hS (gSub rfl) rfl rfl rfl rfl rfl (fun H locs hP hS => ?_)
  refine lv_iload_n hx hb dX8_necklaceNumber_12 rfl (lv_at hl 2 rfl) ?_
  refine lv_iload_n hx hb dX8_necklaceNumber_13 rfl (lv_at hl 1 rfl) ?_
  refine lv_isub hx hb dX8_necklaceNumber_14 ?_
  refine lv_bipush (v := (8 : Int32)) hx hb dX8_necklaceNumber_15 (by decide) ?_
  refine lv_icmp_gt (tgt := 33) hx hb dX8_necklaceNumber_17 (by decide) (fun c_1 => ?_) (fun c_1 => ?_)
  · have hf := (if_pos c_1).symm.trans hf
    exact J33 Wg Wz Ww Wr hf _ _ hP hS _ (lv_sub hl [] rfl)
  · have hf := (if_neg c_1).symm.trans hf
    refine lv_aload_n hx hb dX8_necklaceNumber_20 rfl (lv_at hl 0 rfl) ?_
    refine va_get (D := D) (ci := 6) (v := .ref (q 1)) (C := RX8) (T := TX8) (N := 6) hx hb hts huX8 hown hE.1 hP 0 rfl rfl 0 (by decide) hk10 (fun _ h9 => h9) rfl dX8_necklaceNumber_21 ?_
    refine lv_iload_n hx hb dX8_necklaceNumber_24 rfl (lv_at hl 1 rfl) ?_
    refine lv_iload_n hx hb dX8_necklaceNumber_25 rfl (lv_at hl 2 rfl) ?_
    obtain ⟨r26, hc, hf⟩ := bn_some hf
    try dsimp only at hf
    refine g_call0 (ws' := (w_0_1_2_13 q cI cJ cD Tn Ta Wg Wz Ww Wr)) (st1 := [.int r26]) hq [0, 1, 2, 13] [1, 2] [.inr 0, .inl 0, .inl 1, .inr 3] (va_runV (As := [.int p1, .int p2]) (rest := []) ⟨hx, hb, hml, hown, hts⟩ (kX2_greatestLetter l D cI cJ cD q hq N Tn Ta p1 p2 r26 hc) (cwV 2 hts gX8_necklaceNumber_X2_greatestLetter rfl rfl rfl (by decide +kernel) ⟨(Nat.le_of_ble_eq_true rfl), (Nat.le_of_ble_eq_true rfl)⟩) ⟨gP_blind, va_recv hE.1 hP (ci := 2) (q0 := 1) rfl rfl, fun U hU hW => ⟨rfl, by rw [hU]; exact hP.sub (ws' := (w_1_2 q cI cJ cD Tn Ta)) [1, 2] rfl, gEv.warm hW hE⟩⟩ rfl rfl hl.1 rfl (lv_room (Nat.le_of_ble_eq_true rfl)) dX8_necklaceNumber_26 ⟨Nat.zero_le _, Nat.zero_le _⟩) hP hS (gSub rfl) rfl rfl rfl rfl rfl (fun H locs hP hS => ?_)
    refine lv_iload_n hx hb dX8_necklaceNumber_29 rfl (lv_at hl 3 rfl) ?_
    refine lv_icmp_lt (tgt := 43) hx hb dX8_necklaceNumber_30 (by decide) (fun c_2 => ?_) (fun c_2 => ?_)
    · have hf := (if_pos c_2).symm.trans hf
      refine lv_aload_n hx hb dX8_necklaceNumber_43 rfl (lv_at hl 0 rfl) ?_
      refine va_get (D := D) (ci := 6) (v := .ref (q 13)) (C := RX8) (T := TX8) (N := 6) hx hb hts huX8 hown hE.1 hP 0 rfl rfl 5 (by decide) hk47 (fun _ h9 => h9) rfl dX8_necklaceNumber_44 ?_
      refine lv_iload_n hx hb dX8_necklaceNumber_47 rfl (lv_at hl 3 rfl) ?_
      refine lv_iload_n hx hb dX8_necklaceNumber_48 rfl (lv_at hl 2 rfl) ?_
      refine lv_iload_n hx hb dX8_necklaceNumber_49 rfl (lv_at hl 1 rfl) ?_
      refine lv_isub hx hb dX8_necklaceNumber_50 ?_
      obtain ⟨⟨Wg51, Wz51, Ww51, Wr51⟩, hc, hf⟩ := bn_some hf
      try dsimp only at hf
      refine g_call0 (ws' := (w_0_1_2_13 q cI cJ cD Tn Ta Wg51 Wz51 Ww51 Wr51)) (st1 := []) hq [0, 1, 2, 13] [13] [.inr 0, .inr 1, .inr 2, .inl 0] (va_runV (As := [.int p3, .int (p2 - p1)]) (rest := []) ⟨hx, hb, hml, hown, hts⟩ (kX3_begin l D cI cJ cD q hq N Wg Wz Ww Wr p3 (p2 - p1) Wg51 Wz51 Ww51 Wr51 hc) (cwV 2 hts gX8_necklaceNumber_X3_begin rfl rfl rfl (by decide +kernel) ⟨(Nat.le_of_ble_eq_true rfl), (Nat.le_of_ble_eq_true rfl)⟩) ⟨gP_blind, va_recv hE.1 hP (ci := 3) (q0 := 3) rfl rfl, fun U hU hW => ⟨rfl, by rw [hU]; exact hP.sub (ws' := (w_13 q cI cJ cD Wg Wz Ww Wr)) [3] rfl, gEv.warm hW hE⟩⟩ rfl rfl hl.1 rfl (lv_room (Nat.le_of_ble_eq_true rfl)) dX8_necklaceNumber_51 ⟨Nat.zero_le _, Nat.zero_le _⟩) hP hS (gSub rfl) rfl rfl rfl rfl rfl (fun H locs hP hS => ?_)
      refine lv_aload_n hx hb dX8_necklaceNumber_54 rfl (lv_at hl 0 rfl) ?_
      refine va_get (D := D) (ci := 6) (v := .ref (q 13)) (C := RX8) (T := TX8) (N := 6) hx hb hts huX8 hown hE.1 hP 0 rfl rfl 5 (by decide) hk47 (fun _ h9 => h9) rfl dX8_necklaceNumber_55 ?_
      refine lv_aload_n hx hb dX8_necklaceNumber_58 rfl (lv_at hl 0 rfl) ?_
      refine lv_iload_n hx hb dX8_necklaceNumber_59 rfl (lv_at hl 1 rfl) ?_
      refine lv_iload_n hx hb dX8_necklaceNumber_60 rfl (lv_at hl 2 rfl) ?_
      obtain ⟨r61, hc, hf⟩ := bn_some hf
      try dsimp only at hf
      refine g_call0 (ws' := (w_0_1_2_13 q cI cJ cD Tn Ta Wg51 Wz51 Ww51 Wr51)) (st1 := [.int r61, .ref (q 13)]) hq [0, 1, 2, 13] [0, 1, 2] [.inl 0, .inl 1, .inl 2, .inr 3] (va_runV (As := [.int p1, .int p2]) (rest := [.ref (q 13)]) ⟨hx, hb, hml, hown, hts⟩ (kX8_packedLeastRotation l D cI cJ cD q hq N Tn Ta p1 p2 r61 hc) (cwV 2 hts gX8_necklaceNumber_X8_packedLeastRotation rfl rfl rfl (by decide +kernel) ⟨(Nat.le_of_ble_eq_true rfl), (Nat.le_of_ble_eq_true rfl)⟩) ⟨gP_blind, va_recv hE.1 hP (ci := 6) (q0 := 0) rfl rfl, fun U hU hW => ⟨rfl, by rw [hU]; exact hP.sub (ws' := (w_0_1_2 q cI cJ cD Tn Ta)) [0, 1, 2] rfl, gEv.warm hW hE⟩⟩ rfl rfl hl.1 rfl (lv_room (Nat.le_of_ble_eq_true rfl)) dX8_necklaceNumber_61 ⟨Nat.zero_le _, Nat.zero_le _⟩) hP hS (gSub rfl) rfl rfl rfl rfl rfl (fun H locs hP hS => ?_)
      obtain ⟨⟨r64, Ww64, Wr64⟩, hc, hf⟩ := bn_some hf
      try dsimp only at hf
      refine g_call0 (ws' := (w_0_1_2_13 q cI cJ cD Tn Ta Wg51 Wz51 Ww64 Wr64)) (st1 := [.int r64]) hq [0, 1, 2, 13] [13] [.inr 0, .inr 1, .inr 2, .inl 0] (va_runV (As := [.int r61]) (rest := []) ⟨hx, hb, hml, hown, hts⟩ (kX3_countAhead l D cI cJ cD q hq N Wg51 Wz51 Ww51 Wr51 r61 r64 Ww64 Wr64 hc) (cwV 1 hts gX8_necklaceNumber_X3_countAhead rfl rfl rfl (by decide +kernel) ⟨(Nat.le_of_ble_eq_true rfl), (Nat.le_of_ble_eq_true rfl)⟩) ⟨gP_blind, va_recv hE.1 hP (ci := 3) (q0 := 3) rfl rfl, fun U hU hW => ⟨rfl, by rw [hU]; exact hP.sub (ws' := (w_13 q cI cJ cD Wg51 Wz51 Ww51 Wr51)) [3] rfl, gEv.warm hW hE⟩⟩ rfl rfl hl.1 rfl (lv_room (Nat.le_of_ble_eq_true rfl)) dX8_necklaceNumber_64 ⟨Nat.zero_le _, Nat.zero_le _⟩) hP hS (gSub rfl) rfl rfl rfl rfl rfl (fun H locs hP hS => ?_)
      exact nomatch hf
    · have hf := (if_neg c_2).symm.trans hf
      exact J33 Wg Wz Ww Wr hf _ _ hP hS _ (lv_sub hl [] rfl)
