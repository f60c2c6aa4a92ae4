set_option maxHeartbeats 4000000 in
set_option maxRecDepth 100000 in
theorem kX9_thrown (l : Launch) (D : va_G) (cI cJ cD : ClassId) (q : Nat → Nat) (hq : gInj q) (N : Nat) (Mh : Int32) (Mn : Int32) (Mm : Int32) (r0 : Int32) (hf : fX9_thrown N Mh Mn Mm = some r0) : Met l yX9_thrown wsX9_thrown rX9_thrown (gP D cI cJ cD [.ref (q 14)] (w_14 q cI cJ cD Mh Mn Mm)) (gQ D (some (.int r0)) (w_14 q cI cJ cD Mh Mn Mm) (gA q [14])) 0 0 (gA q [14]) := by
  refine Met.ofW (cc := cX9_thrown) (maxL := 1) (ret := (some .int)) (by decide +kernel) rfl ?_
  intro p e s m args below meth c s₁ B hml hv
  obtain ⟨rfl, hP, hE⟩ := hv
  have hx := B.exec
  have hb := B.bytes
  have hr := B.returns
  have hts := atoms_spec (ws := wsX9_thrown) B.pre
  have hown : s.vm.findClass RX9 = some m.cls := findClass_of_methodNamed B.named
  have hlocks := B.notSynchronized
  have hS : va_S (gA q [14]) s.heap s.heap [] := va_S.rf
  have hl := lv_entry ([.ref (q 14)]) (n := 1) (Nat.le_of_ble_eq_true rfl)
  rw [lg_entry_eq]
  generalize (lg_sl ([.ref (q 14)]) ++ List.replicate (1 - (lg_sl ([.ref (q 14)])).length) Slot.unset).toArray = ls at hl ⊢
  have hl : lv_has ls 1 [(0, .ref (q 14))] := hl
  have hk35 := hts (.fieldLink RX9 35 "LyndonTextModel" "thrown" "I") (by decide +kernel)
  have huX9 : ∀ w ∈ u_ws RX9 TX9 11, w ∈ wsX9_thrown := by decide +kernel
  unfold fX9_thrown at hf
  refine lv_aload_n hx hb dX9_thrown_0 rfl (lv_at hl 0 rfl) ?_
  refine va_get (D := D) (ci := 7) (v := .int Mh) (C := RX9) (T := TX9) (N := 11) hx hb hts huX9 hown hE.1 hP 0 rfl rfl 0 (by decide) hk35 (fun _ h9 => h9) rfl dX9_thrown_1 ?_
  cases hf
  exact W.iret hx hb hr (fun t ht hW => ⟨⟨rfl, by rw [ht]; exact hP⟩, hS.F ht⟩) hS.2.2 dX9_thrown_4
set_option maxHeartbeats 4000000 in
set_option maxRecDepth 100000 in
theorem kX9_goesWell (l : Launch) (D : va_G) (cI cJ cD : ClassId) (q : Nat → Nat) (hq : gInj q) (N : Nat) (Mh : Int32) (Mn : Int32) (Mm : Int32) (p1 : Int32) (r0 : Int32) (Mh9 : Int32) (hf : fX9_goesWell N Mh Mn Mm p1 = some (r0, Mh9)) : Met l yX9_goesWell wsX9_goesWell rX9_goesWell (gP D cI cJ cD [.ref (q 14), .int p1] (w_14 q cI cJ cD Mh Mn Mm)) (gQ D (some (.int r0)) (w_14 q cI cJ cD Mh9 Mn Mm) (gA q [14])) 0 0 (gA q [14]) := by
  refine Met.ofW (cc := cX9_goesWell) (maxL := 2) (ret := (some .boolean)) (by decide +kernel) rfl ?_
  intro p e s m args below meth c s₁ B hml hv
  obtain ⟨rfl, hP, hE⟩ := hv
  have hx := B.exec
  have hb := B.bytes
  have hr := B.returns
  have hts := atoms_spec (ws := wsX9_goesWell) B.pre
  have hown : s.vm.findClass RX9 = some m.cls := findClass_of_methodNamed B.named
  have hlocks := B.notSynchronized
  have hS : va_S (gA q [14]) s.heap s.heap [] := va_S.rf
  have hl := lv_entry ([.ref (q 14), .int p1]) (n := 2) (Nat.le_of_ble_eq_true rfl)
  rw [lg_entry_eq]
  generalize (lg_sl ([.ref (q 14), .int p1]) ++ List.replicate (2 - (lg_sl ([.ref (q 14), .int p1])).length) Slot.unset).toArray = ls at hl ⊢
  have hl : lv_has ls 2 [(0, .ref (q 14)), (1, .int p1)] := hl
  have hDm : ∀ (z0 : Int32) (z1 : Int32) (z2 : Int32), va_D (gA q [14]) (w_14 q cI cJ cD z0 z1 z2) := fun _ _ _ => gD_of hq [14] rfl rfl rfl (fun k h => ⟨k, h, rfl⟩)
  have hk35 := hts (.fieldLink RX9 35 "LyndonTextModel" "thrown" "I") (by decide +kernel)
  have huX9 : ∀ w ∈ u_ws RX9 TX9 11, w ∈ wsX9_goesWell := by decide +kernel
  have J14 : ∀ (Mh : Int32) (y0 : Int32), fX9_goesWell_J14 N Mn Mm Mh y0 = some (r0, Mh9) → ∀ (H : Heap) (locs : List Loc), va_P D vwCl (w_14 q cI cJ cD Mh Mn Mm) H → va_S (gA q [14]) s.heap H locs → ∀ ls : Array Slot, lv_has ls 2 [] → W p l e (headSpec wsX9_goesWell rX9_goesWell).room s m ([.ref (q 14), .int p1] : List Value).toArray below meth c H locs 0 0 (MQ below (gQ D (some (.int r0)) (w_14 q cI cJ cD Mh9 Mn Mm) (gA q [14])) ([.ref (q 14), .int p1] : List Value).toArray s 0 0 (gA q [14])) (F0 m 14 ls [.int y0]) := by
    intro Mh y0 hf H locs hP hS ls hl
    unfold fX9_goesWell_J14 at hf
    obtain ⟨g_1, hf⟩ := gd_some hf
    cases hf
    exact W.zret (ty := .boolean) hx hb hr (isB_nar g_1) (fun t ht hW => ⟨⟨rfl, by rw [ht]; exact hP⟩, hS.F ht⟩) hS.2.2 dX9_goesWell_14
  unfold fX9_goesWell at hf
  refine lv_aload_n hx hb dX9_goesWell_0 rfl (lv_at hl 0 rfl) ?_
  refine lv_iload_n hx hb dX9_goesWell_1 rfl (lv_at hl 1 rfl) ?_
  refine va_put (D := D) (ci := 7) (v := .int p1) (ty := .int) (C := RX9) (T := TX9) (N := 11) hx hb hts huX9 tyX9 tyX9_ok nmX9 hown hE.1 hP (hDm Mh Mn Mm) hS 0 rfl rfl 0 (by decide) hk35 (fun _ h9 => h9) rfl (by decide +kernel) rfl rfl (Nat.le_of_ble_eq_true rfl) dX9_goesWell_2 (fun H locs hP _ hS => ?_)
  have hP : va_P D vwCl (w_14 q cI cJ cD p1 Mn Mm) H := hP
  refine lv_iload_n hx hb dX9_goesWell_5 rfl (lv_at hl 1 rfl) ?_
  refine lv_if_ne (tgt := 13) hx hb dX9_goesWell_6 (by decide) (fun c_2 => ?_) (fun c_2 => ?_)
  · have hf := (if_neg c_2).symm.trans hf
    refine lv_iconst (v := (0 : Int32)) hx hb dX9_goesWell_13 (by decide) ?_
    exact J14 p1 (0 : Int32) hf _ _ hP hS _ (lv_sub hl [] rfl)
  · have hf := (if_pos c_2).symm.trans hf
    refine lv_iconst (v := (1 : Int32)) hx hb dX9_goesWell_9 (by decide) ?_
    refine lv_goto (tgt := 14) hx hb dX9_goesWell_10 (by decide) ?_
    exact J14 p1 (1 : Int32) hf _ _ hP hS _ (lv_sub hl [] rfl)
set_option maxHeartbeats 4000000 in
set_option maxRecDepth 100000 in
theorem kX9_in (l : Launch) (D : va_G) (cI cJ cD : ClassId) (q : Nat → Nat) (hq : gInj q) (N : Nat) (p0 : Int32) (p1 : Int32) (p2 : Int32) (r0 : Int32) (hf : fX9_in N p0 p1 p2 = some r0) : Met l yX9_in wsX9_in rX9_in (gP D cI cJ cD [.int p0, .int p1, .int p2] (w_0none q cI cJ cD)) (gQ D (some (.int r0)) (w_0none q cI cJ cD) (gA q [])) 0 0 (gA q []) := by
  refine Met.ofW (cc := cX9_in) (maxL := 3) (ret := (some .boolean)) (by decide +kernel) rfl ?_
  intro p e s m args below meth c s₁ B hml hv
  obtain ⟨rfl, hP, hE⟩ := hv
  have hx := B.exec
  have hb := B.bytes
  have hr := B.returns
  have hts := atoms_spec (ws := wsX9_in) B.pre
  have hown : s.vm.findClass RX9 = some m.cls := findClass_of_methodNamed B.named
  have hlocks := B.notSynchronized
  have hS : va_S (gA q []) s.heap s.heap [] := va_S.rf
  have hl := lv_entry ([.int p0, .int p1, .int p2]) (n := 3) (Nat.le_of_ble_eq_true rfl)
  rw [lg_entry_eq]
  generalize (lg_sl ([.int p0, .int p1, .int p2]) ++ List.replicate (3 - (lg_sl ([.int p0, .int p1, .int p2])).length) Slot.unset).toArray = ls at hl ⊢
  have hl : lv_has ls 3 [(0, .int p0), (1, .int p1), (2, .int p2)] := hl
  have J15 : ∀ (y0 : Int32), fX9_in_J15 N y0 = some r0 → ∀ (H : Heap) (locs : List Loc), va_P D vwCl (w_0none q cI cJ cD) H → va_S (gA q []) s.heap H locs → ∀ ls : Array Slot, lv_has ls 3 [] → W p l e (headSpec wsX9_in rX9_in).room s m ([.int p0, .int p1, .int p2] : List Value).toArray below meth c H locs 0 0 (MQ below (gQ D (some (.int r0)) (w_0none q cI cJ cD) (gA q [])) ([.int p0, .int p1, .int p2] : List Value).toArray s 0 0 (gA q [])) (F0 m 15 ls [.int y0]) := by
    intro y0 hf H locs hP hS ls hl
    unfold fX9_in_J15 at hf
    obtain ⟨g_1, hf⟩ := gd_some hf
    cases hf
    exact W.zret (ty := .boolean) hx hb hr (isB_nar g_1) (fun t ht hW => ⟨⟨rfl, by rw [ht]; exact hP⟩, hS.F ht⟩) hS.2.2 dX9_in_15
  have J14 : ∀ (_ : Unit), fX9_in_J14 N = some r0 → ∀ (H : Heap) (locs : List Loc), va_P D vwCl (w_0none q cI cJ cD) H → va_S (gA q []) s.heap H locs → ∀ ls : Array Slot, lv_has ls 3 [] → W p l e (headSpec wsX9_in rX9_in).room s m ([.int p0, .int p1, .int p2] : List Value).toArray below meth c H locs 0 0 (MQ below (gQ D (some (.int r0)) (w_0none q cI cJ cD) (gA q [])) ([.int p0, .int p1, .int p2] : List Value).toArray s 0 0 (gA q [])) (F0 m 14 ls []) := by
    intro _ hf H locs hP hS ls hl
    unfold fX9_in_J14 at hf
    refine lv_iconst (v := (0 : Int32)) hx hb dX9_in_14 (by decide) ?_
    exact J15 (0 : Int32) hf _ _ hP hS _ (lv_sub hl [] rfl)
  unfold fX9_in at hf
  refine lv_iload_n hx hb dX9_in_0 rfl (lv_at hl 0 rfl) ?_
  refine lv_iload_n hx hb dX9_in_1 rfl (lv_at hl 1 rfl) ?_
  refine lv_icmp_lt (tgt := 14) hx hb dX9_in_2 (by decide) (fun c_2 => ?_) (fun c_2 => ?_)
  · have hf := (if_pos c_2).symm.trans hf
    exact J14 () hf _ _ hP hS _ (lv_sub hl [] rfl)
  · have hf := (if_neg c_2).symm.trans hf
    refine lv_iload_n hx hb dX9_in_5 rfl (lv_at hl 0 rfl) ?_
    refine lv_iload_n hx hb dX9_in_6 rfl (lv_at hl 2 rfl) ?_
    refine lv_icmp_gt (tgt := 14) hx hb dX9_in_7 (by decide) (fun c_3 => ?_) (fun c_3 => ?_)
    · have hf := (if_pos c_3).symm.trans hf
      exact J14 () hf _ _ hP hS _ (lv_sub hl [] rfl)
    · have hf := (if_neg c_3).symm.trans hf
      refine lv_iconst (v := (1 : Int32)) hx hb dX9_in_10 (by decide) ?_
      refine lv_goto (tgt := 15) hx hb dX9_in_11 (by decide) ?_
      exact J15 (1 : Int32) hf _ _ hP hS _ (lv_sub hl [] rfl)
set_option maxHeartbeats 4000000 in
set_option maxRecDepth 100000 in
theorem kX9_isPlace (l : Launch) (D : va_G) (cI cJ cD : ClassId) (q : Nat → Nat) (hq : gInj q) (N : Nat) (Mh : Int32) (Mn : Int32) (Mm : Int32) (p1 : Int32) (r0 : Int32) (hf : fX9_isPlace N Mh Mn Mm p1 = some r0) : Met l yX9_isPlace wsX9_isPlace rX9_isPlace (gP D cI cJ cD [.ref (q 14), .int p1] (w_14 q cI cJ cD Mh Mn Mm)) (gQ D (some (.int r0)) (w_14 q cI cJ cD Mh Mn Mm) (gA q [14])) 0 0 (gA q [14]) := by
  refine Met.ofW (cc := cX9_isPlace) (maxL := 2) (ret := (some .boolean)) (by decide +kernel) rfl ?_
  intro p e s m args below meth c s₁ B hml hv
  obtain ⟨rfl, hP, hE⟩ := hv
  have hx := B.exec
  have hb := B.bytes
  have hr := B.returns
  have hts := atoms_spec (ws := wsX9_isPlace) B.pre
  have hown : s.vm.findClass RX9 = some m.cls := findClass_of_methodNamed B.named
  have hlocks := B.notSynchronized
  have hS : va_S (gA q [14]) s.heap s.heap [] := va_S.rf
  have hl := lv_entry ([.ref (q 14), .int p1]) (n := 2) (Nat.le_of_ble_eq_true rfl)
  rw [lg_entry_eq]
  generalize (lg_sl ([.ref (q 14), .int p1]) ++ List.replicate (2 - (lg_sl ([.ref (q 14), .int p1])).length) Slot.unset).toArray = ls at hl ⊢
  have hl : lv_has ls 2 [(0, .ref (q 14)), (1, .int p1)] := hl
  have hk39 := hts (.fieldLink RX9 39 "LyndonTextModel" "length" "I") (by decide +kernel)
  have huX9 : ∀ w ∈ u_ws RX9 TX9 11, w ∈ wsX9_isPlace := by decide +kernel
  unfold fX9_isPlace at hf
  refine lv_iload_n hx hb dX9_isPlace_0 rfl (lv_at hl 1 rfl) ?_
  refine lv_iconst (v := (0 : Int32)) hx hb dX9_isPlace_1 (by decide) ?_
  refine lv_aload_n hx hb dX9_isPlace_2 rfl (lv_at hl 0 rfl) ?_
  refine va_get (D := D) (ci := 7) (v := .int Mn) (C := RX9) (T := TX9) (N := 11) hx hb hts huX9 hown hE.1 hP 0 rfl rfl 1 (by decide) hk39 (fun _ h9 => h9) rfl dX9_isPlace_3 ?_
  refine lv_iconst (v := (1 : Int32)) hx hb dX9_isPlace_6 (by decide) ?_
  refine lv_isub hx hb dX9_isPlace_7 ?_
  obtain ⟨r8, hc, hf⟩ := bn_some hf
  try dsimp only at hf
  refine g_call0 (ws' := (w_14 q cI cJ cD Mh Mn Mm)) (st1 := [.int r8]) hq [14] [] [.inr 0] (va_runS (As := [.int p1, .int (0 : Int32), .int (Mn - (1 : Int32))]) (rest := []) ⟨hx, hb, hml, hown, hts⟩ (kX9_in l D cI cJ cD q hq N p1 (0 : Int32) (Mn - (1 : Int32)) r8 hc) (va_cwS 3 hts gX9_isPlace_X9_in rfl rfl rfl (by decide +kernel) ⟨(Nat.le_of_ble_eq_true rfl), (Nat.le_of_ble_eq_true rfl)⟩) ⟨gP_blind, fun U hU hW => ⟨rfl, by rw [hU]; exact hP.sub (ws' := (w_0none q cI cJ cD)) [] rfl, gEv.warm hW hE⟩⟩ rfl rfl hl.1 rfl (lv_room (Nat.le_of_ble_eq_true rfl)) dX9_isPlace_8 ⟨Nat.zero_le _, Nat.zero_le _⟩) hP hS (gSub rfl) rfl rfl rfl rfl rfl (fun H locs hP hS => ?_)
  obtain ⟨g_1, hf⟩ := gd_some hf
  cases hf
  exact W.zret (ty := .boolean) hx hb hr (isB_nar g_1) (fun t ht hW => ⟨⟨rfl, by rw [ht]; exact hP⟩, hS.F ht⟩) hS.2.2 dX9_isPlace_11
set_option maxHeartbeats 4000000 in
set_option maxRecDepth 100000 in
theorem kX9_isPart (l : Launch) (D : va_G) (cI cJ cD : ClassId) (q : Nat → Nat) (hq : gInj q) (N : Nat) (Mh : Int32) (Mn : Int32) (Mm : Int32) (p1 : Int32) (p2 : Int32) (r0 : Int32) (hf : fX9_isPart N Mh Mn Mm p1 p2 = some r0) : Met l yX9_isPart wsX9_isPart rX9_isPart (gP D cI cJ cD [.ref (q 14), .int p1, .int p2] (w_14 q cI cJ cD Mh Mn Mm)) (gQ D (some (.int r0)) (w_14 q cI cJ cD Mh Mn Mm) (gA q [14])) 0 0 (gA q [14]) := by
  refine Met.ofW (cc := cX9_isPart) (maxL := 3) (ret := (some .boolean)) (by decide +kernel) rfl ?_
  intro p e s m args below meth c s₁ B hml hv
  obtain ⟨rfl, hP, hE⟩ := hv
  have hx := B.exec
  have hb := B.bytes
  have hr := B.returns
  have hts := atoms_spec (ws := wsX9_isPart) B.pre
  have hown : s.vm.findClass RX9 = some m.cls := findClass_of_methodNamed B.named
  have hlocks := B.notSynchronized
  have hS : va_S (gA q [14]) s.heap s.heap [] := va_S.rf
  have hl := lv_entry ([.ref (q 14), .int p1, .int p2]) (n := 3) (Nat.le_of_ble_eq_true rfl)
  rw [lg_entry_eq]
  generalize (lg_sl ([.ref (q 14), .int p1, .int p2]) ++ List.replicate (3 - (lg_sl ([.ref (q 14), .int p1, .int p2])).length) Slot.unset).toArray = ls at hl ⊢
  have hl : lv_has ls 3 [(0, .ref (q 14)), (1, .int p1), (2, .int p2)] := hl
  have hk39 := hts (.fieldLink RX9 39 "LyndonTextModel" "length" "I") (by decide +kernel)
  have huX9 : ∀ w ∈ u_ws RX9 TX9 11, w ∈ wsX9_isPart := by decide +kernel
  have J22 : ∀ (y0 : Int32), fX9_isPart_J22 N Mh Mn Mm y0 = some r0 → ∀ (H : Heap) (locs : List Loc), va_P D vwCl (w_14 q cI cJ cD Mh Mn Mm) H → va_S (gA q [14]) s.heap H locs → ∀ ls : Array Slot, lv_has ls 3 [] → W p l e (headSpec wsX9_isPart rX9_isPart).room s m ([.ref (q 14), .int p1, .int p2] : List Value).toArray below meth c H locs 0 0 (MQ below (gQ D (some (.int r0)) (w_14 q cI cJ cD Mh Mn Mm) (gA q [14])) ([.ref (q 14), .int p1, .int p2] : List Value).toArray s 0 0 (gA q [14])) (F0 m 22 ls [.int y0]) := by
    intro y0 hf H locs hP hS ls hl
    unfold fX9_isPart_J22 at hf
    obtain ⟨g_1, hf⟩ := gd_some hf
    cases hf
    exact W.zret (ty := .boolean) hx hb hr (isB_nar g_1) (fun t ht hW => ⟨⟨rfl, by rw [ht]; exact hP⟩, hS.F ht⟩) hS.2.2 dX9_isPart_22
  have J21 : ∀ (_ : Unit), fX9_isPart_J21 N Mh Mn Mm = some r0 → ∀ (H : Heap) (locs : List Loc), va_P D vwCl (w_14 q cI cJ cD Mh Mn Mm) H → va_S (gA q [14]) s.heap H locs → ∀ ls : Array Slot, lv_has ls 3 [] → W p l e (headSpec wsX9_isPart rX9_isPart).room s m ([.ref (q 14), .int p1, .int p2] : List Value).toArray below meth c H locs 0 0 (MQ below (gQ D (some (.int r0)) (w_14 q cI cJ cD Mh Mn Mm) (gA q [14])) ([.ref (q 14), .int p1, .int p2] : List Value).toArray s 0 0 (gA q [14])) (F0 m 21 ls []) := by
    intro _ hf H locs hP hS ls hl
    unfold fX9_isPart_J21 at hf
    refine lv_iconst (v := (0 : Int32)) hx hb dX9_isPart_21 (by decide) ?_
    exact J22 (0 : Int32) hf _ _ hP hS _ (lv_sub hl [] rfl)
  unfold fX9_isPart at hf
  refine lv_iload_n hx hb dX9_isPart_0 rfl (lv_at hl 1 rfl) ?_
  refine lv_if_lt (tgt := 21) hx hb dX9_isPart_1 (by decide) (fun c_2 => ?_) (fun c_2 => ?_)
  · have hf := (if_pos c_2).symm.trans hf
    exact J21 () hf _ _ hP hS _ (lv_sub hl [] rfl)
  · have hf := (if_neg c_2).symm.trans hf
    refine lv_iload_n hx hb dX9_isPart_4 rfl (lv_at hl 1 rfl) ?_
    refine lv_iload_n hx hb dX9_isPart_5 rfl (lv_at hl 2 rfl) ?_
    refine lv_icmp_ge (tgt := 21) hx hb dX9_isPart_6 (by decide) (fun c_3 => ?_) (fun c_3 => ?_)
    · have hf := (if_pos c_3).symm.trans hf
      exact J21 () hf _ _ hP hS _ (lv_sub hl [] rfl)
    · have hf := (if_neg c_3).symm.trans hf
      refine lv_iload_n hx hb dX9_isPart_9 rfl (lv_at hl 2 rfl) ?_
      refine lv_aload_n hx hb dX9_isPart_10 rfl (lv_at hl 0 rfl) ?_
      refine va_get (D := D) (ci := 7) (v := .int Mn) (C := RX9) (T := TX9) (N := 11) hx hb hts huX9 hown hE.1 hP 0 rfl rfl 1 (by decide) hk39 (fun _ h9 => h9) rfl dX9_isPart_11 ?_
      refine lv_icmp_gt (tgt := 21) hx hb dX9_isPart_14 (by decide) (fun c_4 => ?_) (fun c_4 => ?_)
      · have hf := (if_pos c_4).symm.trans hf
        exact J21 () hf _ _ hP hS _ (lv_sub hl [] rfl)
      · have hf := (if_neg c_4).symm.trans hf
        refine lv_iconst (v := (1 : Int32)) hx hb dX9_isPart_17 (by decide) ?_
        refine lv_goto (tgt := 22) hx hb dX9_isPart_18 (by decide) ?_
        exact J22 (1 : Int32) hf _ _ hP hS _ (lv_sub hl [] rfl)
set_option maxHeartbeats 4000000 in
set_option maxRecDepth 100000 in
theorem kX9_append (l : Launch) (D : va_G) (cI cJ cD : ClassId) (q : Nat → Nat) (hq : gInj q) (N : Nat) (Mh : Int32) (Mn : Int32) (Mm : Int32) (Mt : (Nat → Int32)) (p1 : Int32) (r0 : Int32) (Mh9 : Int32) (Mn9 : Int32) (Mt9 : (Nat → Int32)) (hf : fX9_append N Mh Mn Mm Mt p1 = some (r0, Mh9, Mn9, Mt9)) : Met l yX9_append wsX9_append rX9_append (gP D cI cJ cD [.ref (q 14), .int p1] (w_14_15 q cI cJ cD Mh Mn Mm Mt)) (gQ D (some (.int r0)) (w_14_15 q cI cJ cD Mh9 Mn9 Mm Mt9) (gA q [14, 15])) 0 0 (gA q [14, 15]) := by
  refine Met.ofW (cc := cX9_append) (maxL := 2) (ret := (some .int)) (by decide +kernel) rfl ?_
  intro p e s m args below meth c s₁ B hml hv
  obtain ⟨rfl, hP, hE⟩ := hv
  have hx := B.exec
  have hb := B.bytes
  have hr := B.returns
  have hts := atoms_spec (ws := wsX9_append) B.pre
  have hown : s.vm.findClass RX9 = some m.cls := findClass_of_methodNamed B.named
  have hlocks := B.notSynchronized
  have hS : va_S (gA q [14, 15]) s.heap s.heap [] := va_S.rf
  have hl := lv_entry ([.ref (q 14), .int p1]) (n := 2) (Nat.le_of_ble_eq_true rfl)
  rw [lg_entry_eq]
  generalize (lg_sl ([.ref (q 14), .int p1]) ++ List.replicate (2 - (lg_sl ([.ref (q 14), .int p1])).length) Slot.unset).toArray = ls at hl ⊢
  have hl : lv_has ls 2 [(0, .ref (q 14)), (1, .int p1)] := hl
  have hDm : ∀ (z0 : Int32) (z1 : Int32) (z2 : Int32) (z3 : (Nat → Int32)), va_D (gA q [14, 15]) (w_14_15 q cI cJ cD z0 z1 z2 z3) := fun _ _ _ _ => gD_of hq [14, 15] rfl rfl rfl (fun k h => ⟨k, h, rfl⟩)
  have hk39 := hts (.fieldLink RX9 39 "LyndonTextModel" "length" "I") (by decide +kernel)
  have hk7 := hts (.fieldLink RX9 7 "LyndonTextModel" "text" "[I") (by decide +kernel)
  have huX9 : ∀ w ∈ u_ws RX9 TX9 11, w ∈ wsX9_append := by decide +kernel
  have J29 : ∀ (Mh : Int32) (Mn : Int32) (Mt : (Nat → Int32)) (x1 : Int32) (y1 : Int32), fX9_append_J29 N Mm Mh Mn Mt x1 y1 = some (r0, Mh9, Mn9, Mt9) → ∀ (H : Heap) (locs : List Loc), va_P D vwCl (w_14_15 q cI cJ cD Mh Mn Mm Mt) H → va_S (gA q [14, 15]) s.heap H locs → ∀ ls : Array Slot, lv_has ls 2 [(0, .ref (q 14)), (1, .int x1)] → W p l e (headSpec wsX9_append rX9_append).room s m ([.ref (q 14), .int p1] : List Value).toArray below meth c H locs 0 0 (MQ below (gQ D (some (.int r0)) (w_14_15 q cI cJ cD Mh9 Mn9 Mm Mt9) (gA q [14, 15])) ([.ref (q 14), .int p1] : List Value).toArray s 0 0 (gA q [14, 15])) (F0 m 29 ls [.int y1, .ref (q 14)]) := by
    intro Mh Mn Mt x1 y1 hf H locs hP hS ls hl
    unfold fX9_append_J29 at hf
    obtain ⟨⟨r29, Mh29⟩, hc, hf⟩ := bn_some hf
    try dsimp only at hf
    refine g_call0 (ws' := (w_14_15 q cI cJ cD Mh29 Mn Mm Mt)) (st1 := [.int r29]) hq [14, 15] [14] [.inl 0, .inr 1] (va_runV (As := [.int y1]) (rest := []) ⟨hx, hb, hml, hown, hts⟩ (kX9_goesWell l D cI cJ cD q hq N Mh Mn Mm y1 r29 Mh29 hc) (cwV 1 hts gX9_append_X9_goesWell rfl rfl rfl (by decide +kernel) ⟨(Nat.le_of_ble_eq_true rfl), (Nat.le_of_ble_eq_true rfl)⟩) ⟨gP_blind, va_recv hE.1 hP (ci := 7) (q0 := 0) rfl rfl, fun U hU hW => ⟨rfl, by rw [hU]; exact hP.sub (ws' := (w_14 q cI cJ cD Mh Mn Mm)) [0] rfl, gEv.warm hW hE⟩⟩ rfl rfl hl.1 rfl (lv_room (Nat.le_of_ble_eq_true rfl)) dX9_append_29 ⟨Nat.zero_le _, Nat.zero_le _⟩) hP hS (gSub rfl) rfl rfl rfl rfl rfl (fun H locs hP hS => ?_)
    refine lv_if_eq (tgt := 60) hx hb dX9_append_32 (by decide) (fun c_1 => ?_) (fun c_1 => ?_)
    · have hf := (if_pos c_1).symm.trans hf
      refine lv_iconst (v := (0 : Int32)) hx hb dX9_append_60 (by decide) ?_
      cases hf
      exact W.iret hx hb hr (fun t ht hW => ⟨⟨rfl, by rw [ht]; exact hP⟩, hS.F ht⟩) hS.2.2 dX9_append_61
    · have hf := (if_neg c_1).symm.trans hf
      refine lv_aload_n hx hb dX9_append_35 rfl (lv_at hl 0 rfl) ?_
      refine va_get (D := D) (ci := 7) (v := .ref (q 15)) (C := RX9) (T := TX9) (N := 11) hx hb hts huX9 hown hE.1 hP 0 rfl rfl 2 (by decide) hk7 (fun _ h9 => h9) rfl dX9_append_36 ?_
      refine lv_aload_n hx hb dX9_append_39 rfl (lv_at hl 0 rfl) ?_
      refine va_get (D := D) (ci := 7) (v := .int Mn) (C := RX9) (T := TX9) (N := 11) hx hb hts huX9 hown hE.1 hP 0 rfl rfl 1 (by decide) hk39 (fun _ h9 => h9) rfl dX9_append_40 ?_
      refine lv_iload_n hx hb dX9_append_43 rfl (lv_at hl 1 rfl) ?_
      obtain ⟨g_2, hf⟩ := gd_some hf
      refine va_iast hx hb hE.1 hP (hDm Mh29 Mn Mm Mt) hS 1 0 rfl rfl (inb_in g_2) dX9_append_44 (fun H locs hP _ hS => ?_)
      have hP : va_P D vwCl (w_14_15 q cI cJ cD Mh29 Mn Mm (upd Mt (Mn).toNatClampNeg x1)) H := hP
      refine lv_aload_n hx hb dX9_append_45 rfl (lv_at hl 0 rfl) ?_
      refine lv_dup hx hb dX9_append_46 rfl ?_
      refine va_get (D := D) (ci := 7) (v := .int Mn) (C := RX9) (T := TX9) (N := 11) hx hb hts huX9 hown hE.1 hP 0 rfl rfl 1 (by decide) hk39 (fun _ h9 => h9) rfl dX9_append_47 ?_
      refine lv_iconst (v := (1 : Int32)) hx hb dX9_append_50 (by decide) ?_
      refine lv_iadd hx hb dX9_append_51 ?_
      refine va_put (D := D) (ci := 7) (v := .int (Mn + (1 : Int32))) (ty := .int) (C := RX9) (T := TX9) (N := 11) hx hb hts huX9 tyX9 tyX9_ok nmX9 hown hE.1 hP (hDm Mh29 Mn Mm (upd Mt (Mn).toNatClampNeg x1)) hS 0 rfl rfl 1 (by decide) hk39 (fun _ h9 => h9) rfl (by decide +kernel) rfl rfl (Nat.le_of_ble_eq_true rfl) dX9_append_52 (fun H locs hP _ hS => ?_)
      have hP : va_P D vwCl (w_14_15 q cI cJ cD Mh29 (Mn + (1 : Int32)) Mm (upd Mt (Mn).toNatClampNeg x1)) H := hP
      refine lv_aload_n hx hb dX9_append_55 rfl (lv_at hl 0 rfl) ?_
      refine va_get (D := D) (ci := 7) (v := .int (Mn + (1 : Int32))) (C := RX9) (T := TX9) (N := 11) hx hb hts huX9 hown hE.1 hP 0 rfl rfl 1 (by decide) hk39 (fun _ h9 => h9) rfl dX9_append_56 ?_
      cases hf
      exact W.iret hx hb hr (fun t ht hW => ⟨⟨rfl, by rw [ht]; exact hP⟩, hS.F ht⟩) hS.2.2 dX9_append_59
  unfold fX9_append at hf
  refine lv_aload_n hx hb dX9_append_0 rfl (lv_at hl 0 rfl) ?_
  refine lv_iload_n hx hb dX9_append_1 rfl (lv_at hl 1 rfl) ?_
  refine lv_iconst (v := (0 : Int32)) hx hb dX9_append_2 (by decide) ?_
  refine lv_bipush (v := (25 : Int32)) hx hb dX9_append_3 (by decide) ?_
  obtain ⟨r5, hc, hf⟩ := bn_some hf
  try dsimp only at hf
  refine g_call0 (ws' := (w_14_15 q cI cJ cD Mh Mn Mm Mt)) (st1 := [.int r5, .ref (q 14)]) hq [14, 15] [] [.inr 0, .inr 1] (va_runS (As := [.int p1, .int (0 : Int32), .int (25 : Int32)]) (rest := [.ref (q 14)]) ⟨hx, hb, hml, hown, hts⟩ (kX9_in l D cI cJ cD q hq N p1 (0 : Int32) (25 : Int32) r5 hc) (va_cwS 3 hts gX9_append_X9_in rfl rfl rfl (by decide +kernel) ⟨(Nat.le_of_ble_eq_true rfl), (Nat.le_of_ble_eq_true rfl)⟩) ⟨gP_blind, fun U hU hW => ⟨rfl, by rw [hU]; exact hP.sub (ws' := (w_0none q cI cJ cD)) [] rfl, gEv.warm hW hE⟩⟩ rfl rfl hl.1 rfl (lv_room (Nat.le_of_ble_eq_true rfl)) dX9_append_5 ⟨Nat.zero_le _, Nat.zero_le _⟩) hP hS (gSub rfl) rfl rfl rfl rfl rfl (fun H locs hP hS => ?_)
  refine lv_if_ne (tgt := 15) hx hb dX9_append_8 (by decide) (fun c_3 => ?_) (fun c_3 => ?_)
  · have hf := (if_neg c_3).symm.trans hf
    refine lv_aload_n hx hb dX9_append_15 rfl (lv_at hl 0 rfl) ?_
    refine va_get (D := D) (ci := 7) (v := .int Mn) (C := RX9) (T := TX9) (N := 11) hx hb hts huX9 hown hE.1 hP 0 rfl rfl 1 (by decide) hk39 (fun _ h9 => h9) rfl dX9_append_16 ?_
    refine lv_bipush (v := (64 : Int32)) hx hb dX9_append_19 (by decide) ?_
    refine lv_icmp_ne (tgt := 28) hx hb dX9_append_21 (by decide) (fun c_4 => ?_) (fun c_4 => ?_)
    · have hf := (if_neg c_4).symm.trans hf
      refine lv_iconst (v := (0 : Int32)) hx hb dX9_append_28 (by decide) ?_
      exact J29 Mh Mn Mt p1 (0 : Int32) hf _ _ hP hS _ (lv_sub hl [0, 1] rfl)
    · have hf := (if_pos c_4).symm.trans hf
      refine lv_iconst (v := (2 : Int32)) hx hb dX9_append_24 (by decide) ?_
      refine lv_goto (tgt := 29) hx hb dX9_append_25 (by decide) ?_
      exact J29 Mh Mn Mt p1 (2 : Int32) hf _ _ hP hS _ (lv_sub hl [0, 1] rfl)
  · have hf := (if_pos c_3).symm.trans hf
    refine lv_iconst (v := (1 : Int32)) hx hb dX9_append_11 (by decide) ?_
    refine lv_goto (tgt := 29) hx hb dX9_append_12 (by decide) ?_
    exact J29 Mh Mn Mt p1 (1 : Int32) hf _ _ hP hS _ (lv_sub hl [0, 1] rfl)
set_option maxHeartbeats 4000000 in
set_option maxRecDepth 100000 in
theorem kX9_insert (l : Launch) (D : va_G) (cI cJ cD : ClassId) (q : Nat → Nat) (hq : gInj q) (N : Nat) (Mh : Int32) (Mn : Int32) (Mm : Int32) (Mt : (Nat → Int32)) (p1 : Int32) (p2 : Int32) (r0 : Int32) (Mh9 : Int32) (Mn9 : Int32) (Mt9 : (Nat → Int32)) (hf : fX9_insert N Mh Mn Mm Mt p1 p2 = some (r0, Mh9, Mn9, Mt9)) : Met l yX9_insert wsX9_insert rX9_insert (gP D cI cJ cD [.ref (q 14), .int p1, .int p2] (w_14_15 q cI cJ cD Mh Mn Mm Mt)) (gQ D (some (.int r0)) (w_14_15 q cI cJ cD Mh9 Mn9 Mm Mt9) (gA q [14, 15])) 0 0 (gA q [14, 15]) := by
  refine Met.ofW (cc := cX9_insert) (maxL := 4) (ret := (some .int)) (by decide +kernel) rfl ?_
  intro p e s m args below meth c s₁ B hml hv
  obtain ⟨rfl, hP, hE⟩ := hv
  have hx := B.exec
  have hb := B.bytes
  have hr := B.returns
  have hts := atoms_spec (ws := wsX9_insert) B.pre
  have hown : s.vm.findClass RX9 = some m.cls := findClass_of_methodNamed B.named
  have hlocks := B.notSynchronized
  have hS : va_S (gA q [14, 15]) s.heap s.heap [] := va_S.rf
  have hl := lv_entry ([.ref (q 14), .int p1, .int p2]) (n := 4) (Nat.le_of_ble_eq_true rfl)
  rw [lg_entry_eq]
  generalize (lg_sl ([.ref (q 14), .int p1, .int p2]) ++ List.replicate (4 - (lg_sl ([.ref (q 14), .int p1, .int p2])).length) Slot.unset).toArray = ls at hl ⊢
  have hl : lv_has ls 4 [(0, .ref (q 14)), (1, .int p1), (2, .int p2)] := hl
  have hDm : ∀ (z0 : Int32) (z1 : Int32) (z2 : Int32) (z3 : (Nat → Int32)), va_D (gA q [14, 15]) (w_14_15 q cI cJ cD z0 z1 z2 z3) := fun _ _ _ _ => gD_of hq [14, 15] rfl rfl rfl (fun k h => ⟨k, h, rfl⟩)
  have hk39 := hts (.fieldLink RX9 39 "LyndonTextModel" "length" "I") (by decide +kernel)
  have hk7 := hts (.fieldLink RX9 7 "LyndonTextModel" "text" "[I") (by decide +kernel)
  have huX9 : ∀ w ∈ u_ws RX9 TX9 11, w ∈ wsX9_insert := by decide +kernel
  have J83 : ∀ (Mh : Int32) (Mn : Int32) (Mt : (Nat → Int32)) (x1 : Int32) (x2 : Int32), fX9_insert_J83 N Mm Mh Mn Mt x1 x2 = some (r0, Mh9, Mn9, Mt9) → ∀ (H : Heap) (locs : List Loc), va_P D vwCl (w_14_15 q cI cJ cD Mh Mn Mm Mt) H → va_S (gA q [14, 15]) s.heap H locs → ∀ ls : Array Slot, lv_has ls 4 [(0, .ref (q 14)), (1, .int x1), (2, .int x2)] → W p l e (headSpec wsX9_insert rX9_insert).room s m ([.ref (q 14), .int p1, .int p2] : List Value).toArray below meth c H locs 0 0 (MQ below (gQ D (some (.int r0)) (w_14_15 q cI cJ cD Mh9 Mn9 Mm Mt9) (gA q [14, 15])) ([.ref (q 14), .int p1, .int p2] : List Value).toArray s 0 0 (gA q [14, 15])) (F0 m 83 ls []) := by
    intro Mh Mn Mt x1 x2 hf H locs hP hS ls hl
    unfold fX9_insert_J83 at hf
    refine lv_aload_n hx hb dX9_insert_83 rfl (lv_at hl 0 rfl) ?_
    refine va_get (D := D) (ci := 7) (v := .ref (q 15)) (C := RX9) (T := TX9) (N := 11) hx hb hts huX9 hown hE.1 hP 0 rfl rfl 2 (by decide) hk7 (fun _ h9 => h9) rfl dX9_insert_84 ?_
    refine lv_iload_n hx hb dX9_insert_87 rfl (lv_at hl 1 rfl) ?_
    refine lv_iload_n hx hb dX9_insert_88 rfl (lv_at hl 2 rfl) ?_
    obtain ⟨g_1, hf⟩ := gd_some hf
    refine va_iast hx hb hE.1 hP (hDm Mh Mn Mm Mt) hS 1 0 rfl rfl (inb_in g_1) dX9_insert_89 (fun H locs hP _ hS => ?_)
    have hP : va_P D vwCl (w_14_15 q cI cJ cD Mh Mn Mm (upd Mt (x1).toNatClampNeg x2)) H := hP
    refine lv_aload_n hx hb dX9_insert_90 rfl (lv_at hl 0 rfl) ?_
    refine lv_dup hx hb dX9_insert_91 rfl ?_
    refine va_get (D := D) (ci := 7) (v := .int Mn) (C := RX9) (T := TX9) (N := 11) hx hb hts huX9 hown hE.1 hP 0 rfl rfl 1 (by decide) hk39 (fun _ h9 => h9) rfl dX9_insert_92 ?_
    refine lv_iconst (v := (1 : Int32)) hx hb dX9_insert_95 (by decide) ?_
    refine lv_iadd hx hb dX9_insert_96 ?_
    refine va_put (D := D) (ci := 7) (v := .int (Mn + (1 : Int32))) (ty := .int) (C := RX9) (T := TX9) (N := 11) hx hb hts huX9 tyX9 tyX9_ok nmX9 hown hE.1 hP (hDm Mh Mn Mm (upd Mt (x1).toNatClampNeg x2)) hS 0 rfl rfl 1 (by decide) hk39 (fun _ h9 => h9) rfl (by decide +kernel) rfl rfl (Nat.le_of_ble_eq_true rfl) dX9_insert_97 (fun H locs hP _ hS => ?_)
    have hP : va_P D vwCl (w_14_15 q cI cJ cD Mh (Mn + (1 : Int32)) Mm (upd Mt (x1).toNatClampNeg x2)) H := hP
    refine lv_aload_n hx hb dX9_insert_100 rfl (lv_at hl 0 rfl) ?_
    refine va_get (D := D) (ci := 7) (v := .int (Mn + (1 : Int32))) (C := RX9) (T := TX9) (N := 11) hx hb hts huX9 hown hE.1 hP 0 rfl rfl 1 (by decide) hk39 (fun _ h9 => h9) rfl dX9_insert_101 ?_
    cases hf
    exact W.iret hx hb hr (fun t ht hW => ⟨⟨rfl, by rw [ht]; exact hP⟩, hS.F ht⟩) hS.2.2 dX9_insert_104
  have K58 : ∀ (n58 : Nat) (Mh : Int32) (Mn : Int32) (Mt : (Nat → Int32)) (x1 : Int32) (x2 : Int32) (x3 : Int32), fX9_insert_H58 N Mm n58 Mh Mn Mt x1 x2 x3 = some (r0, Mh9, Mn9, Mt9) → ∀ (H : Heap) (locs : List Loc), va_P D vwCl (w_14_15 q cI cJ cD Mh Mn Mm Mt) H → va_S (gA q [14, 15]) s.heap H locs → ∀ ls : Array Slot, lv_has ls 4 [(0, .ref (q 14)), (1, .int x1), (2, .int x2), (3, .int x3)] → W p l e (headSpec wsX9_insert rX9_insert).room s m ([.ref (q 14), .int p1, .int p2] : List Value).toArray below meth c H locs 0 0 (MQ below (gQ D (some (.int r0)) (w_14_15 q cI cJ cD Mh9 Mn9 Mm Mt9) (gA q [14, 15])) ([.ref (q 14), .int p1, .int p2] : List Value).toArray s 0 0 (gA q [14, 15])) (F0 m 58 ls []) := by
    intro n58
    induction n58 with
    | zero =>
      intro Mh Mn Mt x1 x2 x3 hf
      exact nomatch (show (none : Option (Int32 × Int32 × Int32 × (Nat → Int32))) = some (r0, Mh9, Mn9, Mt9) from hf)
    | succ n58 ih58 =>
      intro Mh Mn Mt x1 x2 x3 hf H locs hP hS ls hl
      have hf : fX9_insert_B58 N Mm (fX9_insert_H58 N Mm n58) Mh Mn Mt x1 x2 x3 = some (r0, Mh9, Mn9, Mt9) := hf
      unfold fX9_insert_B58 at hf
      refine lv_iload_n hx hb dX9_insert_58 rfl (lv_at hl 3 rfl) ?_
      refine lv_iload_n hx hb dX9_insert_59 rfl (lv_at hl 1 rfl) ?_
      refine lv_icmp_le (tgt := 83) hx hb dX9_insert_60 (by decide) (fun c_2 => ?_) (fun c_2 => ?_)
      · have hf := (if_pos c_2).symm.trans hf
        exact J83 Mh Mn Mt x1 x2 hf _ _ hP hS _ (lv_sub hl [0, 1, 2] rfl)
      · have hf := (if_neg c_2).symm.trans hf
        refine lv_aload_n hx hb dX9_insert_63 rfl (lv_at hl 0 rfl) ?_
        refine va_get (D := D) (ci := 7) (v := .ref (q 15)) (C := RX9) (T := TX9) (N := 11) hx hb hts huX9 hown hE.1 hP 0 rfl rfl 2 (by decide) hk7 (fun _ h9 => h9) rfl dX9_insert_64 ?_
        refine lv_iload_n hx hb dX9_insert_67 rfl (lv_at hl 3 rfl) ?_
        refine lv_aload_n hx hb dX9_insert_68 rfl (lv_at hl 0 rfl) ?_
        refine va_get (D := D) (ci := 7) (v := .ref (q 15)) (C := RX9) (T := TX9) (N := 11) hx hb hts huX9 hown hE.1 hP 0 rfl rfl 2 (by decide) hk7 (fun _ h9 => h9) rfl dX9_insert_69 ?_
        refine lv_iload_n hx hb dX9_insert_72 rfl (lv_at hl 3 rfl) ?_
        refine lv_iconst (v := (1 : Int32)) hx hb dX9_insert_73 (by decide) ?_
        refine lv_isub hx hb dX9_insert_74 ?_
        obtain ⟨g_3, hf⟩ := gd_some hf
        refine va_iald hx hb hE.1 hP 1 0 rfl rfl (inb_in g_3) dX9_insert_75 ?_
        obtain ⟨g_4, hf⟩ := gd_some hf
        refine va_iast hx hb hE.1 hP (hDm Mh Mn Mm Mt) hS 1 0 rfl rfl (inb_in g_4) dX9_insert_76 (fun H locs hP _ hS => ?_)
        have hP : va_P D vwCl (w_14_15 q cI cJ cD Mh Mn Mm (upd Mt (x3).toNatClampNeg (Mt ((x3 - (1 : Int32))).toNatClampNeg))) H := hP
        refine lv_iinc (v := (x3 + (-1 : Int32))) (lv' := [(3, .int (x3 + (-1 : Int32))), (0, .ref (q 14)), (1, .int x1), (2, .int x2)]) hx hb dX9_insert_77 hl (k := 3) rfl rfl (by decide) rfl (fun ls hl => ?_)
        refine lv_goto (tgt := 58) hx hb dX9_insert_80 (by decide) ?_
        exact ih58 Mh Mn (upd Mt (x3).toNatClampNeg (Mt ((x3 - (1 : Int32))).toNatClampNeg)) x1 x2 (x3 + (-1 : Int32)) hf _ _ hP hS _ (lv_sub hl [1, 2, 3, 0] rfl)
  have J45 : ∀ (Mh : Int32) (Mn : Int32) (Mt : (Nat → Int32)) (x1 : Int32) (x2 : Int32) (y1 : Int32), fX9_insert_J45 N Mm Mh Mn Mt x1 x2 y1 = some (r0, Mh9, Mn9, Mt9) → ∀ (H : Heap) (locs : List Loc), va_P D vwCl (w_14_15 q cI cJ cD Mh Mn Mm Mt) H → va_S (gA q [14, 15]) s.heap H locs → ∀ ls : Array Slot, lv_has ls 4 [(0, .ref (q 14)), (1, .int x1), (2, .int x2)] → W p l e (headSpec wsX9_insert rX9_insert).room s m ([.ref (q 14), .int p1, .int p2] : List Value).toArray below meth c H locs 0 0 (MQ below (gQ D (some (.int r0)) (w_14_15 q cI cJ cD Mh9 Mn9 Mm Mt9) (gA q [14, 15])) ([.ref (q 14), .int p1, .int p2] : List Value).toArray s 0 0 (gA q [14, 15])) (F0 m 45 ls [.int y1, .ref (q 14)]) := by
    intro Mh Mn Mt x1 x2 y1 hf H locs hP hS ls hl
    unfold fX9_insert_J45 at hf
    obtain ⟨⟨r45, Mh45⟩, hc, hf⟩ := bn_some hf
    try dsimp only at hf
    refine g_call0 (ws' := (w_14_15 q cI cJ cD Mh45 Mn Mm Mt)) (st1 := [.int r45]) hq [14, 15] [14] [.inl 0, .inr 1] (va_runV (As := [.int y1]) (rest := []) ⟨hx, hb, hml, hown, hts⟩ (kX9_goesWell l D cI cJ cD q hq N Mh Mn Mm y1 r45 Mh45 hc) (cwV 1 hts gX9_insert_X9_goesWell rfl rfl rfl (by decide +kernel) ⟨(Nat.le_of_ble_eq_true rfl), (Nat.le_of_ble_eq_true rfl)⟩) ⟨gP_blind, va_recv hE.1 hP (ci := 7) (q0 := 0) rfl rfl, fun U hU hW => ⟨rfl, by rw [hU]; exact hP.sub (ws' := (w_14 q cI cJ cD Mh Mn Mm)) [0] rfl, gEv.warm hW hE⟩⟩ rfl rfl hl.1 rfl (lv_room (Nat.le_of_ble_eq_true rfl)) dX9_insert_45 ⟨Nat.zero_le _, Nat.zero_le _⟩) hP hS (gSub rfl) rfl rfl rfl rfl rfl (fun H locs hP hS => ?_)
    refine lv_if_ne (tgt := 53) hx hb dX9_insert_48 (by decide) (fun c_5 => ?_) (fun c_5 => ?_)
    · have hf := (if_neg c_5).symm.trans hf
      refine lv_aload_n hx hb dX9_insert_53 rfl (lv_at hl 0 rfl) ?_
      refine va_get (D := D) (ci := 7) (v := .int Mn) (C := RX9) (T := TX9) (N := 11) hx hb hts huX9 hown hE.1 hP 0 rfl rfl 1 (by decide) hk39 (fun _ h9 => h9) rfl dX9_insert_54 ?_
      refine lv_istore_n (lv' := [(3, .int Mn), (0, .ref (q 14)), (1, .int x1), (2, .int x2)]) hx hb dX9_insert_57 rfl hl (by decide) rfl (fun ls hl => ?_)
      exact K58 N Mh45 Mn Mt x1 x2 Mn hf _ _ hP hS _ (lv_sub hl [1, 2, 3, 0] rfl)
    · have hf := (if_pos c_5).symm.trans hf
      refine lv_iconst (v := (0 : Int32)) hx hb dX9_insert_51 (by decide) ?_
      cases hf
      exact W.iret hx hb hr (fun t ht hW => ⟨⟨rfl, by rw [ht]; exact hP⟩, hS.F ht⟩) hS.2.2 dX9_insert_52
  unfold fX9_insert at hf
  refine lv_aload_n hx hb dX9_insert_0 rfl (lv_at hl 0 rfl) ?_
  refine lv_iload_n hx hb dX9_insert_1 rfl (lv_at hl 1 rfl) ?_
  refine lv_iconst (v := (0 : Int32)) hx hb dX9_insert_2 (by decide) ?_
  refine lv_aload_n hx hb dX9_insert_3 rfl (lv_at hl 0 rfl) ?_
  refine va_get (D := D) (ci := 7) (v := .int Mn) (C := RX9) (T := TX9) (N := 11) hx hb hts huX9 hown hE.1 hP 0 rfl rfl 1 (by decide) hk39 (fun _ h9 => h9) rfl dX9_insert_4 ?_
  obtain ⟨r7, hc, hf⟩ := bn_some hf
  try dsimp only at hf
  refine g_call0 (ws' := (w_14_15 q cI cJ cD Mh Mn Mm Mt)) (st1 := [.int r7, .ref (q 14)]) hq [14, 15] [] [.inr 0, .inr 1] (va_runS (As := [.int p1, .int (0 : Int32), .int Mn]) (rest := [.ref (q 14)]) ⟨hx, hb, hml, hown, hts⟩ (kX9_in l D cI cJ cD q hq N p1 (0 : Int32) Mn r7 hc) (va_cwS 3 hts gX9_insert_X9_in rfl rfl rfl (by decide +kernel) ⟨(Nat.le_of_ble_eq_true rfl), (Nat.le_of_ble_eq_true rfl)⟩) ⟨gP_blind, fun U hU hW => ⟨rfl, by rw [hU]; exact hP.sub (ws' := (w_0none q cI cJ cD)) [] rfl, gEv.warm hW hE⟩⟩ rfl rfl hl.1 rfl (lv_room (Nat.le_of_ble_eq_true rfl)) dX9_insert_7 ⟨Nat.zero_le _, Nat.zero_le _⟩) hP hS (gSub rfl) rfl rfl rfl rfl rfl (fun H locs hP hS => ?_)
  refine lv_if_ne (tgt := 17) hx hb dX9_insert_10 (by decide) (fun c_6 => ?_) (fun c_6 => ?_)
  · have hf := (if_neg c_6).symm.trans hf
    refine lv_iload_n hx hb dX9_insert_17 rfl (lv_at hl 2 rfl) ?_
    refine lv_iconst (v := (0 : Int32)) hx hb dX9_insert_18 (by decide) ?_
    refine lv_bipush (v := (25 : Int32)) hx hb dX9_insert_19 (by decide) ?_
    obtain ⟨r21, hc, hf⟩ := bn_some hf
    try dsimp only at hf
    refine g_call0 (ws' := (w_14_15 q cI cJ cD Mh Mn Mm Mt)) (st1 := [.int r21, .ref (q 14)]) hq [14, 15] [] [.inr 0, .inr 1] (va_runS (As := [.int p2, .int (0 : Int32), .int (25 : Int32)]) (rest := [.ref (q 14)]) ⟨hx, hb, hml, hown, hts⟩ (kX9_in l D cI cJ cD q hq N p2 (0 : Int32) (25 : Int32) r21 hc) (va_cwS 3 hts gX9_insert_X9_in rfl rfl rfl (by decide +kernel) ⟨(Nat.le_of_ble_eq_true rfl), (Nat.le_of_ble_eq_true rfl)⟩) ⟨gP_blind, fun U hU hW => ⟨rfl, by rw [hU]; exact hP.sub (ws' := (w_0none q cI cJ cD)) [] rfl, gEv.warm hW hE⟩⟩ rfl rfl hl.1 rfl (lv_room (Nat.le_of_ble_eq_true rfl)) dX9_insert_21 ⟨Nat.zero_le _, Nat.zero_le _⟩) hP hS (gSub rfl) rfl rfl rfl rfl rfl (fun H locs hP hS => ?_)
    refine lv_if_ne (tgt := 31) hx hb dX9_insert_24 (by decide) (fun c_7 => ?_) (fun c_7 => ?_)
    · have hf := (if_neg c_7).symm.trans hf
      refine lv_aload_n hx hb dX9_insert_31 rfl (lv_at hl 0 rfl) ?_
      refine va_get (D := D) (ci := 7) (v := .int Mn) (C := RX9) (T := TX9) (N := 11) hx hb hts huX9 hown hE.1 hP 0 rfl rfl 1 (by decide) hk39 (fun _ h9 => h9) rfl dX9_insert_32 ?_
      refine lv_bipush (v := (64 : Int32)) hx hb dX9_insert_35 (by decide) ?_
      refine lv_icmp_ne (tgt := 44) hx hb dX9_insert_37 (by decide) (fun c_8 => ?_) (fun c_8 => ?_)
      · have hf := (if_neg c_8).symm.trans hf
        refine lv_iconst (v := (0 : Int32)) hx hb dX9_insert_44 (by decide) ?_
        exact J45 Mh Mn Mt p1 p2 (0 : Int32) hf _ _ hP hS _ (lv_sub hl [0, 1, 2] rfl)
      · have hf := (if_pos c_8).symm.trans hf
        refine lv_iconst (v := (3 : Int32)) hx hb dX9_insert_40 (by decide) ?_
        refine lv_goto (tgt := 45) hx hb dX9_insert_41 (by decide) ?_
        exact J45 Mh Mn Mt p1 p2 (3 : Int32) hf _ _ hP hS _ (lv_sub hl [0, 1, 2] rfl)
    · have hf := (if_pos c_7).symm.trans hf
      refine lv_iconst (v := (2 : Int32)) hx hb dX9_insert_27 (by decide) ?_
      refine lv_goto (tgt := 45) hx hb dX9_insert_28 (by decide) ?_
      exact J45 Mh Mn Mt p1 p2 (2 : Int32) hf _ _ hP hS _ (lv_sub hl [0, 1, 2] rfl)
  · have hf := (if_pos c_6).symm.trans hf
    refine lv_iconst (v := (1 : Int32)) hx hb dX9_insert_13 (by decide) ?_
    refine lv_goto (tgt := 45) hx hb dX9_insert_14 (by decide) ?_
    exact J45 Mh Mn Mt p1 p2 (1 : Int32) hf _ _ hP hS _ (lv_sub hl [0, 1, 2] rfl)
set_option maxHeartbeats 4000000 in
set_option maxRecDepth 100000 in
theorem kX9_set (l : Launch) (D : va_G) (cI cJ cD : ClassId) (q : Nat → Nat) (hq : gInj q) (N : Nat) (Mh : Int32) (Mn : Int32) (Mm : Int32) (Mt : (Nat → Int32)) (p1 : Int32) (p2 : Int32) (r0 : Int32) (Mh9 : Int32) (Mt9 : (Nat → Int32)) (hf : fX9_set N Mh Mn Mm Mt p1 p2 = some (r0, Mh9, Mt9)) : Met l yX9_set wsX9_set rX9_set (gP D cI cJ cD [.ref (q 14), .int p1, .int p2] (w_14_15 q cI cJ cD Mh Mn Mm Mt)) (gQ D (some (.int r0)) (w_14_15 q cI cJ cD Mh9 Mn Mm Mt9) (gA q [14, 15])) 0 0 (gA q [14, 15]) := by
  refine Met.ofW (cc := cX9_set) (maxL := 4) (ret := (some .int)) (by decide +kernel) rfl ?_
  intro p e s m args below meth c s₁ B hml hv
  obtain ⟨rfl, hP, hE⟩ := hv
  have hx := B.exec
  have hb := B.bytes
  have hr := B.returns
  have hts := atoms_spec (ws := wsX9_set) B.pre
  have hown : s.vm.findClass RX9 = some m.cls := findClass_of_methodNamed B.named
  have hlocks := B.notSynchronized
  have hS : va_S (gA q [14, 15]) s.heap s.heap [] := va_S.rf
  have hl := lv_entry ([.ref (q 14), .int p1, .int p2]) (n := 4) (Nat.le_of_ble_eq_true rfl)
  rw [lg_entry_eq]
  generalize (lg_sl ([.ref (q 14), .int p1, .int p2]) ++ List.replicate (4 - (lg_sl ([.ref (q 14), .int p1, .int p2])).length) Slot.unset).toArray = ls at hl ⊢
  have hl : lv_has ls 4 [(0, .ref (q 14)), (1, .int p1), (2, .int p2)] := hl
  have hDm : ∀ (z0 : Int32) (z1 : Int32) (z2 : Int32) (z3 : (Nat → Int32)), va_D (gA q [14, 15]) (w_14_15 q cI cJ cD z0 z1 z2 z3) := fun _ _ _ _ => gD_of hq [14, 15] rfl rfl rfl (fun k h => ⟨k, h, rfl⟩)
  have hk7 := hts (.fieldLink RX9 7 "LyndonTextModel" "text" "[I") (by decide +kernel)
  have huX9 : ∀ w ∈ u_ws RX9 TX9 11, w ∈ wsX9_set := by decide +kernel
  have J28 : ∀ (Mh : Int32) (Mt : (Nat → Int32)) (x1 : Int32) (x2 : Int32) (y1 : Int32), fX9_set_J28 N Mn Mm Mh Mt x1 x2 y1 = some (r0, Mh9, Mt9) → ∀ (H : Heap) (locs : List Loc), va_P D vwCl (w_14_15 q cI cJ cD Mh Mn Mm Mt) H → va_S (gA q [14, 15]) s.heap H locs → ∀ ls : Array Slot, lv_has ls 4 [(0, .ref (q 14)), (1, .int x1), (2, .int x2)] → W p l e (headSpec wsX9_set rX9_set).room s m ([.ref (q 14), .int p1, .int p2] : List Value).toArray below meth c H locs 0 0 (MQ below (gQ D (some (.int r0)) (w_14_15 q cI cJ cD Mh9 Mn Mm Mt9) (gA q [14, 15])) ([.ref (q 14), .int p1, .int p2] : List Value).toArray s 0 0 (gA q [14, 15])) (F0 m 28 ls [.int y1, .ref (q 14)]) := by
    intro Mh Mt x1 x2 y1 hf H locs hP hS ls hl
    unfold fX9_set_J28 at hf
    obtain ⟨⟨r28, Mh28⟩, hc, hf⟩ := bn_some hf
    try dsimp only at hf
    refine g_call0 (ws' := (w_14_15 q cI cJ cD Mh28 Mn Mm Mt)) (st1 := [.int r28]) hq [14, 15] [14] [.inl 0, .inr 1] (va_runV (As := [.int y1]) (rest := []) ⟨hx, hb, hml, hown, hts⟩ (kX9_goesWell l D cI cJ cD q hq N Mh Mn Mm y1 r28 Mh28 hc) (cwV 1 hts gX9_set_X9_goesWell rfl rfl rfl (by decide +kernel) ⟨(Nat.le_of_ble_eq_true rfl), (Nat.le_of_ble_eq_true rfl)⟩) ⟨gP_blind, va_recv hE.1 hP (ci := 7) (q0 := 0) rfl rfl, fun U hU hW => ⟨rfl, by rw [hU]; exact hP.sub (ws' := (w_14 q cI cJ cD Mh Mn Mm)) [0] rfl, gEv.warm hW hE⟩⟩ rfl rfl hl.1 rfl (lv_room (Nat.le_of_ble_eq_true rfl)) dX9_set_28 ⟨Nat.zero_le _, Nat.zero_le _⟩) hP hS (gSub rfl) rfl rfl rfl rfl rfl (fun H locs hP hS => ?_)
    refine lv_if_ne (tgt := 36) hx hb dX9_set_31 (by decide) (fun c_1 => ?_) (fun c_1 => ?_)
    · have hf := (if_neg c_1).symm.trans hf
      refine lv_aload_n hx hb dX9_set_36 rfl (lv_at hl 0 rfl) ?_
      refine va_get (D := D) (ci := 7) (v := .ref (q 15)) (C := RX9) (T := TX9) (N := 11) hx hb hts huX9 hown hE.1 hP 0 rfl rfl 2 (by decide) hk7 (fun _ h9 => h9) rfl dX9_set_37 ?_
      refine lv_iload_n hx hb dX9_set_40 rfl (lv_at hl 1 rfl) ?_
      obtain ⟨g_2, hf⟩ := gd_some hf
      refine va_iald hx hb hE.1 hP 1 0 rfl rfl (inb_in g_2) dX9_set_41 ?_
      refine lv_istore_n (lv' := [(3, .int (Mt (x1).toNatClampNeg)), (0, .ref (q 14)), (1, .int x1), (2, .int x2)]) hx hb dX9_set_42 rfl hl (by decide) rfl (fun ls hl => ?_)
      refine lv_aload_n hx hb dX9_set_43 rfl (lv_at hl 1 rfl) ?_
      refine va_get (D := D) (ci := 7) (v := .ref (q 15)) (C := RX9) (T := TX9) (N := 11) hx hb hts huX9 hown hE.1 hP 0 rfl rfl 2 (by decide) hk7 (fun _ h9 => h9) rfl dX9_set_44 ?_
      refine lv_iload_n hx hb dX9_set_47 rfl (lv_at hl 2 rfl) ?_
      refine lv_iload_n hx hb dX9_set_48 rfl (lv_at hl 3 rfl) ?_
      obtain ⟨g_3, hf⟩ := gd_some hf
      refine va_iast hx hb hE.1 hP (hDm Mh28 Mn Mm Mt) hS 1 0 rfl rfl (inb_in g_3) dX9_set_49 (fun H locs hP _ hS => ?_)
      have hP : va_P D vwCl (w_14_15 q cI cJ cD Mh28 Mn Mm (upd Mt (x1).toNatClampNeg x2)) H := hP
      refine lv_iload_n hx hb dX9_set_50 rfl (lv_at hl 0 rfl) ?_
      cases hf
      exact W.iret hx hb hr (fun t ht hW => ⟨⟨rfl, by rw [ht]; exact hP⟩, hS.F ht⟩) hS.2.2 dX9_set_51
    · have hf := (if_pos c_1).symm.trans hf
      refine lv_iconst (v := (0 : Int32)) hx hb dX9_set_34 (by decide) ?_
      cases hf
      exact W.iret hx hb hr (fun t ht hW => ⟨⟨rfl, by rw [ht]; exact hP⟩, hS.F ht⟩) hS.2.2 dX9_set_35
  unfold fX9_set at hf
  refine lv_aload_n hx hb dX9_set_0 rfl (lv_at hl 0 rfl) ?_
  refine lv_aload_n hx hb dX9_set_1 rfl (lv_at hl 0 rfl) ?_
  refine lv_iload_n hx hb dX9_set_2 rfl (lv_at hl 1 rfl) ?_
  obtain ⟨r3, hc, hf⟩ := bn_some hf
  try dsimp only at hf
  refine g_call0 (ws' := (w_14_15 q cI cJ cD Mh Mn Mm Mt)) (st1 := [.int r3, .ref (q 14)]) hq [14, 15] [14] [.inl 0, .inr 1] (va_runV (As := [.int p1]) (rest := [.ref (q 14)]) ⟨hx, hb, hml, hown, hts⟩ (kX9_isPlace l D cI cJ cD q hq N Mh Mn Mm p1 r3 hc) (cwV 1 hts gX9_set_X9_isPlace rfl rfl rfl (by decide +kernel) ⟨(Nat.le_of_ble_eq_true rfl), (Nat.le_of_ble_eq_true rfl)⟩) ⟨gP_blind, va_recv hE.1 hP (ci := 7) (q0 := 0) rfl rfl, fun U hU hW => ⟨rfl, by rw [hU]; exact hP.sub (ws' := (w_14 q cI cJ cD Mh Mn Mm)) [0] rfl, gEv.warm hW hE⟩⟩ rfl rfl hl.1 rfl (lv_room (Nat.le_of_ble_eq_true rfl)) dX9_set_3 ⟨Nat.zero_le _, Nat.zero_le _⟩) hP hS (gSub rfl) rfl rfl rfl rfl rfl (fun H locs hP hS => ?_)
  refine lv_if_ne (tgt := 13) hx hb dX9_set_6 (by decide) (fun c_4 => ?_) (fun c_4 => ?_)
  · have hf := (if_neg c_4).symm.trans hf
    refine lv_iload_n hx hb dX9_set_13 rfl (lv_at hl 2 rfl) ?_
    refine lv_iconst (v := (0 : Int32)) hx hb dX9_set_14 (by decide) ?_
    refine lv_bipush (v := (25 : Int32)) hx hb dX9_set_15 (by decide) ?_
    obtain ⟨r17, hc, hf⟩ := bn_some hf
    try dsimp only at hf
    refine g_call0 (ws' := (w_14_15 q cI cJ cD Mh Mn Mm Mt)) (st1 := [.int r17, .ref (q 14)]) hq [14, 15] [] [.inr 0, .inr 1] (va_runS (As := [.int p2, .int (0 : Int32), .int (25 : Int32)]) (rest := [.ref (q 14)]) ⟨hx, hb, hml, hown, hts⟩ (kX9_in l D cI cJ cD q hq N p2 (0 : Int32) (25 : Int32) r17 hc) (va_cwS 3 hts gX9_set_X9_in rfl rfl rfl (by decide +kernel) ⟨(Nat.le_of_ble_eq_true rfl), (Nat.le_of_ble_eq_true rfl)⟩) ⟨gP_blind, fun U hU hW => ⟨rfl, by rw [hU]; exact hP.sub (ws' := (w_0none q cI cJ cD)) [] rfl, gEv.warm hW hE⟩⟩ rfl rfl hl.1 rfl (lv_room (Nat.le_of_ble_eq_true rfl)) dX9_set_17 ⟨Nat.zero_le _, Nat.zero_le _⟩) hP hS (gSub rfl) rfl rfl rfl rfl rfl (fun H locs hP hS => ?_)
    refine lv_if_ne (tgt := 27) hx hb dX9_set_20 (by decide) (fun c_5 => ?_) (fun c_5 => ?_)
    · have hf := (if_neg c_5).symm.trans hf
      refine lv_iconst (v := (0 : Int32)) hx hb dX9_set_27 (by decide) ?_
      exact J28 Mh Mt p1 p2 (0 : Int32) hf _ _ hP hS _ (lv_sub hl [0, 1, 2] rfl)
    · have hf := (if_pos c_5).symm.trans hf
      refine lv_iconst (v := (2 : Int32)) hx hb dX9_set_23 (by decide) ?_
      refine lv_goto (tgt := 28) hx hb dX9_set_24 (by decide) ?_
      exact J28 Mh Mt p1 p2 (2 : Int32) hf _ _ hP hS _ (lv_sub hl [0, 1, 2] rfl)
  · have hf := (if_pos c_4).symm.trans hf
    refine lv_iconst (v := (1 : Int32)) hx hb dX9_set_9 (by decide) ?_
    refine lv_goto (tgt := 28) hx hb dX9_set_10 (by decide) ?_
    exact J28 Mh Mt p1 p2 (1 : Int32) hf _ _ hP hS _ (lv_sub hl [0, 1, 2] rfl)
set_option maxHeartbeats 4000000 in
set_option maxRecDepth 100000 in
theorem kX9_remove (l : Launch) (D : va_G) (cI cJ cD : ClassId) (q : Nat → Nat) (hq : gInj q) (N : Nat) (Mh : Int32) (Mn : Int32) (Mm : Int32) (Mt : (Nat → Int32)) (p1 : Int32) (r0 : Int32) (Mh9 : Int32) (Mn9 : Int32) (Mt9 : (Nat → Int32)) (hf : fX9_remove N Mh Mn Mm Mt p1 = some (r0, Mh9, Mn9, Mt9)) : Met l yX9_remove wsX9_remove rX9_remove (gP D cI cJ cD [.ref (q 14), .int p1] (w_14_15 q cI cJ cD Mh Mn Mm Mt)) (gQ D (some (.int r0)) (w_14_15 q cI cJ cD Mh9 Mn9 Mm Mt9) (gA q [14, 15])) 0 0 (gA q [14, 15]) := by
  refine Met.ofW (cc := cX9_remove) (maxL := 4) (ret := (some .int)) (by decide +kernel) rfl ?_
  intro p e s m args below meth c s₁ B hml hv
  obtain ⟨rfl, hP, hE⟩ := hv
  have hx := B.exec
  have hb := B.bytes
  have hr := B.returns
  have hts := atoms_spec (ws := wsX9_remove) B.pre
  have hown : s.vm.findClass RX9 = some m.cls := findClass_of_methodNamed B.named
  have hlocks := B.notSynchronized
  have hS : va_S (gA q [14, 15]) s.heap s.heap [] := va_S.rf
  have hl := lv_entry ([.ref (q 14), .int p1]) (n := 4) (Nat.le_of_ble_eq_true rfl)
  rw [lg_entry_eq]
  generalize (lg_sl ([.ref (q 14), .int p1]) ++ List.replicate (4 - (lg_sl ([.ref (q 14), .int p1])).length) Slot.unset).toArray = ls at hl ⊢
  have hl : lv_has ls 4 [(0, .ref (q 14)), (1, .int p1)] := hl
  have hDm : ∀ (z0 : Int32) (z1 : Int32) (z2 : Int32) (z3 : (Nat → Int32)), va_D (gA q [14, 15]) (w_14_15 q cI cJ cD z0 z1 z2 z3) := fun _ _ _ _ => gD_of hq [14, 15] rfl rfl rfl (fun k h => ⟨k, h, rfl⟩)
  have hk7 := hts (.fieldLink RX9 7 "LyndonTextModel" "text" "[I") (by decide +kernel)
  have hk39 := hts (.fieldLink RX9 39 "LyndonTextModel" "length" "I") (by decide +kernel)
  have huX9 : ∀ w ∈ u_ws RX9 TX9 11, w ∈ wsX9_remove := by decide +kernel
  have J69 : ∀ (Mh : Int32) (Mn : Int32) (Mt : (Nat → Int32)) (x2 : Int32), fX9_remove_J69 N Mm Mh Mn Mt x2 = some (r0, Mh9, Mn9, Mt9) → ∀ (H : Heap) (locs : List Loc), va_P D vwCl (w_14_15 q cI cJ cD Mh Mn Mm Mt) H → va_S (gA q [14, 15]) s.heap H locs → ∀ ls : Array Slot, lv_has ls 4 [(2, .int x2)] → W p l e (headSpec wsX9_remove rX9_remove).room s m ([.ref (q 14), .int p1] : List Value).toArray below meth c H locs 0 0 (MQ below (gQ D (some (.int r0)) (w_14_15 q cI cJ cD Mh9 Mn9 Mm Mt9) (gA q [14, 15])) ([.ref (q 14), .int p1] : List Value).toArray s 0 0 (gA q [14, 15])) (F0 m 69 ls []) := by
    intro Mh Mn Mt x2 hf H locs hP hS ls hl
    unfold fX9_remove_J69 at hf
    refine lv_iload_n hx hb dX9_remove_69 rfl (lv_at hl 0 rfl) ?_
    cases hf
    exact W.iret hx hb hr (fun t ht hW => ⟨⟨rfl, by rw [ht]; exact hP⟩, hS.F ht⟩) hS.2.2 dX9_remove_70
  have K41 : ∀ (n41 : Nat) (Mh : Int32) (Mn : Int32) (Mt : (Nat → Int32)) (x2 : Int32) (x3 : Int32), fX9_remove_H41 N Mm n41 Mh Mn Mt x2 x3 = some (r0, Mh9, Mn9, Mt9) → ∀ (H : Heap) (locs : List Loc), va_P D vwCl (w_14_15 q cI cJ cD Mh Mn Mm Mt) H → va_S (gA q [14, 15]) s.heap H locs → ∀ ls : Array Slot, lv_has ls 4 [(0, .ref (q 14)), (2, .int x2), (3, .int x3)] → W p l e (headSpec wsX9_remove rX9_remove).room s m ([.ref (q 14), .int p1] : List Value).toArray below meth c H locs 0 0 (MQ below (gQ D (some (.int r0)) (w_14_15 q cI cJ cD Mh9 Mn9 Mm Mt9) (gA q [14, 15])) ([.ref (q 14), .int p1] : List Value).toArray s 0 0 (gA q [14, 15])) (F0 m 41 ls []) := by
    intro n41
    induction n41 with
    | zero =>
      intro Mh Mn Mt x2 x3 hf
      exact nomatch (show (none : Option (Int32 × Int32 × Int32 × (Nat → Int32))) = some (r0, Mh9, Mn9, Mt9) from hf)
    | succ n41 ih41 =>
      intro Mh Mn Mt x2 x3 hf H locs hP hS ls hl
      have hf : fX9_remove_B41 N Mm (fX9_remove_H41 N Mm n41) Mh Mn Mt x2 x3 = some (r0, Mh9, Mn9, Mt9) := hf
      unfold fX9_remove_B41 at hf
      refine lv_iload_n hx hb dX9_remove_41 rfl (lv_at hl 2 rfl) ?_
      refine lv_aload_n hx hb dX9_remove_42 rfl (lv_at hl 0 rfl) ?_
      refine va_get (D := D) (ci := 7) (v := .int Mn) (C := RX9) (T := TX9) (N := 11) hx hb hts huX9 hown hE.1 hP 0 rfl rfl 1 (by decide) hk39 (fun _ h9 => h9) rfl dX9_remove_43 ?_
      refine lv_icmp_ge (tgt := 69) hx hb dX9_remove_46 (by decide) (fun c_1 => ?_) (fun c_1 => ?_)
      · have hf := (if_pos c_1).symm.trans hf
        exact J69 Mh Mn Mt x2 hf _ _ hP hS _ (lv_sub hl [1] rfl)
      · have hf := (if_neg c_1).symm.trans hf
        refine lv_aload_n hx hb dX9_remove_49 rfl (lv_at hl 0 rfl) ?_
        refine va_get (D := D) (ci := 7) (v := .ref (q 15)) (C := RX9) (T := TX9) (N := 11) hx hb hts huX9 hown hE.1 hP 0 rfl rfl 2 (by decide) hk7 (fun _ h9 => h9) rfl dX9_remove_50 ?_
        refine lv_iload_n hx hb dX9_remove_53 rfl (lv_at hl 2 rfl) ?_
        refine lv_aload_n hx hb dX9_remove_54 rfl (lv_at hl 0 rfl) ?_
        refine va_get (D := D) (ci := 7) (v := .ref (q 15)) (C := RX9) (T := TX9) (N := 11) hx hb hts huX9 hown hE.1 hP 0 rfl rfl 2 (by decide) hk7 (fun _ h9 => h9) rfl dX9_remove_55 ?_
        refine lv_iload_n hx hb dX9_remove_58 rfl (lv_at hl 2 rfl) ?_
        refine lv_iconst (v := (1 : Int32)) hx hb dX9_remove_59 (by decide) ?_
        refine lv_iadd hx hb dX9_remove_60 ?_
        obtain ⟨g_2, hf⟩ := gd_some hf
        refine va_iald hx hb hE.1 hP 1 0 rfl rfl (inb_in g_2) dX9_remove_61 ?_
        obtain ⟨g_3, hf⟩ := gd_some hf
        refine va_iast hx hb hE.1 hP (hDm Mh Mn Mm Mt) hS 1 0 rfl rfl (inb_in g_3) dX9_remove_62 (fun H locs hP _ hS => ?_)
        have hP : va_P D vwCl (w_14_15 q cI cJ cD Mh Mn Mm (upd Mt (x3).toNatClampNeg (Mt ((x3 + (1 : Int32))).toNatClampNeg))) H := hP
        refine lv_iinc (v := (x3 + 1)) (lv' := [(3, .int (x3 + 1)), (0, .ref (q 14)), (2, .int x2)]) hx hb dX9_remove_63 hl (k := 2) rfl rfl (by decide) rfl (fun ls hl => ?_)
        refine lv_goto (tgt := 41) hx hb dX9_remove_66 (by decide) ?_
        exact ih41 Mh Mn (upd Mt (x3).toNatClampNeg (Mt ((x3 + (1 : Int32))).toNatClampNeg)) x2 (x3 + 1) hf _ _ hP hS _ (lv_sub hl [1, 2, 0] rfl)
  have J14 : ∀ (Mh : Int32) (Mn : Int32) (Mt : (Nat → Int32)) (x1 : Int32) (y1 : Int32), fX9_remove_J14 N Mm Mh Mn Mt x1 y1 = some (r0, Mh9, Mn9, Mt9) → ∀ (H : Heap) (locs : List Loc), va_P D vwCl (w_14_15 q cI cJ cD Mh Mn Mm Mt) H → va_S (gA q [14, 15]) s.heap H locs → ∀ ls : Array Slot, lv_has ls 4 [(0, .ref (q 14)), (1, .int x1)] → W p l e (headSpec wsX9_remove rX9_remove).room s m ([.ref (q 14), .int p1] : List Value).toArray below meth c H locs 0 0 (MQ below (gQ D (some (.int r0)) (w_14_15 q cI cJ cD Mh9 Mn9 Mm Mt9) (gA q [14, 15])) ([.ref (q 14), .int p1] : List Value).toArray s 0 0 (gA q [14, 15])) (F0 m 14 ls [.int y1, .ref (q 14)]) := by
    intro Mh Mn Mt x1 y1 hf H locs hP hS ls hl
    unfold fX9_remove_J14 at hf
    obtain ⟨⟨r14, Mh14⟩, hc, hf⟩ := bn_some hf
    try dsimp only at hf
    refine g_call0 (ws' := (w_14_15 q cI cJ cD Mh14 Mn Mm Mt)) (st1 := [.int r14]) hq [14, 15] [14] [.inl 0, .inr 1] (va_runV (As := [.int y1]) (rest := []) ⟨hx, hb, hml, hown, hts⟩ (kX9_goesWell l D cI cJ cD q hq N Mh Mn Mm y1 r14 Mh14 hc) (cwV 1 hts gX9_remove_X9_goesWell rfl rfl rfl (by decide +kernel) ⟨(Nat.le_of_ble_eq_true rfl), (Nat.le_of_ble_eq_true rfl)⟩) ⟨gP_blind, va_recv hE.1 hP (ci := 7) (q0 := 0) rfl rfl, fun U hU hW => ⟨rfl, by rw [hU]; exact hP.sub (ws' := (w_14 q cI cJ cD Mh Mn Mm)) [0] rfl, gEv.warm hW hE⟩⟩ rfl rfl hl.1 rfl (lv_room (Nat.le_of_ble_eq_true rfl)) dX9_remove_14 ⟨Nat.zero_le _, Nat.zero_le _⟩) hP hS (gSub rfl) rfl rfl rfl rfl rfl (fun H locs hP hS => ?_)
    refine lv_if_ne (tgt := 22) hx hb dX9_remove_17 (by decide) (fun c_4 => ?_) (fun c_4 => ?_)
    · have hf := (if_neg c_4).symm.trans hf
      refine lv_aload_n hx hb dX9_remove_22 rfl (lv_at hl 0 rfl) ?_
      refine va_get (D := D) (ci := 7) (v := .ref (q 15)) (C := RX9) (T := TX9) (N := 11) hx hb hts huX9 hown hE.1 hP 0 rfl rfl 2 (by decide) hk7 (fun _ h9 => h9) rfl dX9_remove_23 ?_
      refine lv_iload_n hx hb dX9_remove_26 rfl (lv_at hl 1 rfl) ?_
      obtain ⟨g_5, hf⟩ := gd_some hf
      refine va_iald hx hb hE.1 hP 1 0 rfl rfl (inb_in g_5) dX9_remove_27 ?_
      refine lv_istore_n (lv' := [(2, .int (Mt (x1).toNatClampNeg)), (0, .ref (q 14)), (1, .int x1)]) hx hb dX9_remove_28 rfl hl (by decide) rfl (fun ls hl => ?_)
      refine lv_aload_n hx hb dX9_remove_29 rfl (lv_at hl 1 rfl) ?_
      refine lv_dup hx hb dX9_remove_30 rfl ?_
      refine va_get (D := D) (ci := 7) (v := .int Mn) (C := RX9) (T := TX9) (N := 11) hx hb hts huX9 hown hE.1 hP 0 rfl rfl 1 (by decide) hk39 (fun _ h9 => h9) rfl dX9_remove_31 ?_
      refine lv_iconst (v := (1 : Int32)) hx hb dX9_remove_34 (by decide) ?_
      refine lv_isub hx hb dX9_remove_35 ?_
      refine va_put (D := D) (ci := 7) (v := .int (Mn - (1 : Int32))) (ty := .int) (C := RX9) (T := TX9) (N := 11) hx hb hts huX9 tyX9 tyX9_ok nmX9 hown hE.1 hP (hDm Mh14 Mn Mm Mt) hS 0 rfl rfl 1 (by decide) hk39 (fun _ h9 => h9) rfl (by decide +kernel) rfl rfl (Nat.le_of_ble_eq_true rfl) dX9_remove_36 (fun H locs hP _ hS => ?_)
      have hP : va_P D vwCl (w_14_15 q cI cJ cD Mh14 (Mn - (1 : Int32)) Mm Mt) H := hP
      refine lv_iload_n hx hb dX9_remove_39 rfl (lv_at hl 2 rfl) ?_
      refine lv_istore_n (lv' := [(3, .int x1), (2, .int (Mt (x1).toNatClampNeg)), (0, .ref (q 14)), (1, .int x1)]) hx hb dX9_remove_40 rfl hl (by decide) rfl (fun ls hl => ?_)
      exact K41 N Mh14 (Mn - (1 : Int32)) Mt (Mt (x1).toNatClampNeg) x1 hf _ _ hP hS _ (lv_sub hl [2, 1, 0] rfl)
    · have hf := (if_pos c_4).symm.trans hf
      refine lv_iconst (v := (0 : Int32)) hx hb dX9_remove_20 (by decide) ?_
      cases hf
      exact W.iret hx hb hr (fun t ht hW => ⟨⟨rfl, by rw [ht]; exact hP⟩, hS.F ht⟩) hS.2.2 dX9_remove_21
  unfold fX9_remove at hf
  refine lv_aload_n hx hb dX9_remove_0 rfl (lv_at hl 0 rfl) ?_
  refine lv_aload_n hx hb dX9_remove_1 rfl (lv_at hl 0 rfl) ?_
  refine lv_iload_n hx hb dX9_remove_2 rfl (lv_at hl 1 rfl) ?_
  obtain ⟨r3, hc, hf⟩ := bn_some hf
  try dsimp only at hf
  refine g_call0 (ws' := (w_14_15 q cI cJ cD Mh Mn Mm Mt)) (st1 := [.int r3, .ref (q 14)]) hq [14, 15] [14] [.inl 0, .inr 1] (va_runV (As := [.int p1]) (rest := [.ref (q 14)]) ⟨hx, hb, hml, hown, hts⟩ (kX9_isPlace l D cI cJ cD q hq N Mh Mn Mm p1 r3 hc) (cwV 1 hts gX9_remove_X9_isPlace rfl rfl rfl (by decide +kernel) ⟨(Nat.le_of_ble_eq_true rfl), (Nat.le_of_ble_eq_true rfl)⟩) ⟨gP_blind, va_recv hE.1 hP (ci := 7) (q0 := 0) rfl rfl, fun U hU hW => ⟨rfl, by rw [hU]; exact hP.sub (ws' := (w_14 q cI cJ cD Mh Mn Mm)) [0] rfl, gEv.warm hW hE⟩⟩ rfl rfl hl.1 rfl (lv_room (Nat.le_of_ble_eq_true rfl)) dX9_remove_3 ⟨Nat.zero_le _, Nat.zero_le _⟩) hP hS (gSub rfl) rfl rfl rfl rfl rfl (fun H locs hP hS => ?_)
  refine lv_if_eq (tgt := 13) hx hb dX9_remove_6 (by decide) (fun c_6 => ?_) (fun c_6 => ?_)
  · have hf := (if_pos c_6).symm.trans hf
    refine lv_iconst (v := (1 : Int32)) hx hb dX9_remove_13 (by decide) ?_
    exact J14 Mh Mn Mt p1 (1 : Int32) hf _ _ hP hS _ (lv_sub hl [0, 1] rfl)
  · have hf := (if_neg c_6).symm.trans hf
    refine lv_iconst (v := (0 : Int32)) hx hb dX9_remove_9 (by decide) ?_
    refine lv_goto (tgt := 14) hx hb dX9_remove_10 (by decide) ?_
    exact J14 Mh Mn Mt p1 (0 : Int32) hf _ _ hP hS _ (lv_sub hl [0, 1] rfl)
set_option maxHeartbeats 4000000 in
set_option maxRecDepth 100000 in
theorem kX9_clear (l : Launch) (D : va_G) (cI cJ cD : ClassId) (q : Nat → Nat) (hq : gInj q) (N : Nat) (Mh : Int32) (Mn : Int32) (Mm : Int32) (r0 : Int32) (Mh9 : Int32) (Mn9 : Int32) (hf : fX9_clear N Mh Mn Mm = some (r0, Mh9, Mn9)) : Met l yX9_clear wsX9_clear rX9_clear (gP D cI cJ cD [.ref (q 14)] (w_14 q cI cJ cD Mh Mn Mm)) (gQ D (some (.int r0)) (w_14 q cI cJ cD Mh9 Mn9 Mm) (gA q [14])) 0 0 (gA q [14]) := by
  refine Met.ofW (cc := cX9_clear) (maxL := 2) (ret := (some .int)) (by decide +kernel) rfl ?_
  intro p e s m args below meth c s₁ B hml hv
  obtain ⟨rfl, hP, hE⟩ := hv
  have hx := B.exec
  have hb := B.bytes
  have hr := B.returns
  have hts := atoms_spec (ws := wsX9_clear) B.pre
  have hown : s.vm.findClass RX9 = some m.cls := findClass_of_methodNamed B.named
  have hlocks := B.notSynchronized
  have hS : va_S (gA q [14]) s.heap s.heap [] := va_S.rf
  have hl := lv_entry ([.ref (q 14)]) (n := 2) (Nat.le_of_ble_eq_true rfl)
  rw [lg_entry_eq]
  generalize (lg_sl ([.ref (q 14)]) ++ List.replicate (2 - (lg_sl ([.ref (q 14)])).length) Slot.unset).toArray = ls at hl ⊢
  have hl : lv_has ls 2 [(0, .ref (q 14))] := hl
  have hDm : ∀ (z0 : Int32) (z1 : Int32) (z2 : Int32), va_D (gA q [14]) (w_14 q cI cJ cD z0 z1 z2) := fun _ _ _ => gD_of hq [14] rfl rfl rfl (fun k h => ⟨k, h, rfl⟩)
  have hk35 := hts (.fieldLink RX9 35 "LyndonTextModel" "thrown" "I") (by decide +kernel)
  have hk39 := hts (.fieldLink RX9 39 "LyndonTextModel" "length" "I") (by decide +kernel)
  have huX9 : ∀ w ∈ u_ws RX9 TX9 11, w ∈ wsX9_clear := by decide +kernel
  unfold fX9_clear at hf
  refine lv_aload_n hx hb dX9_clear_0 rfl (lv_at hl 0 rfl) ?_
  refine lv_iconst (v := (0 : Int32)) hx hb dX9_clear_1 (by decide) ?_
  refine va_put (D := D) (ci := 7) (v := .int (0 : Int32)) (ty := .int) (C := RX9) (T := TX9) (N := 11) hx hb hts huX9 tyX9 tyX9_ok nmX9 hown hE.1 hP (hDm Mh Mn Mm) hS 0 rfl rfl 0 (by decide) hk35 (fun _ h9 => h9) rfl (by decide +kernel) rfl rfl (Nat.le_of_ble_eq_true rfl) dX9_clear_2 (fun H locs hP _ hS => ?_)
  have hP : va_P D vwCl (w_14 q cI cJ cD (0 : Int32) Mn Mm) H := hP
  refine lv_aload_n hx hb dX9_clear_5 rfl (lv_at hl 0 rfl) ?_
  refine va_get (D := D) (ci := 7) (v := .int Mn) (C := RX9) (T := TX9) (N := 11) hx hb hts huX9 hown hE.1 hP 0 rfl rfl 1 (by decide) hk39 (fun _ h9 => h9) rfl dX9_clear_6 ?_
  refine lv_istore_n (lv' := [(1, .int Mn), (0, .ref (q 14))]) hx hb dX9_clear_9 rfl hl (by decide) rfl (fun ls hl => ?_)
  refine lv_aload_n hx hb dX9_clear_10 rfl (lv_at hl 1 rfl) ?_
  refine lv_iconst (v := (0 : Int32)) hx hb dX9_clear_11 (by decide) ?_
  refine va_put (D := D) (ci := 7) (v := .int (0 : Int32)) (ty := .int) (C := RX9) (T := TX9) (N := 11) hx hb hts huX9 tyX9 tyX9_ok nmX9 hown hE.1 hP (hDm (0 : Int32) Mn Mm) hS 0 rfl rfl 1 (by decide) hk39 (fun _ h9 => h9) rfl (by decide +kernel) rfl rfl (Nat.le_of_ble_eq_true rfl) dX9_clear_12 (fun H locs hP _ hS => ?_)
  have hP : va_P D vwCl (w_14 q cI cJ cD (0 : Int32) (0 : Int32) Mm) H := hP
  refine lv_iload_n hx hb dX9_clear_15 rfl (lv_at hl 0 rfl) ?_
  cases hf
  exact W.iret hx hb hr (fun t ht hW => ⟨⟨rfl, by rw [ht]; exact hP⟩, hS.F ht⟩) hS.2.2 dX9_clear_16
set_option maxHeartbeats 4000000 in
set_option maxRecDepth 100000 in
theorem kX9_keep (l : Launch) (D : va_G) (cI cJ cD : ClassId) (q : Nat → Nat) (hq : gInj q) (N : Nat) (Mh : Int32) (Mn : Int32) (Mm : Int32) (Mt : (Nat → Int32)) (Mk : (Nat → Int32)) (Mk9 : (Nat → Int32)) (hf : fX9_keep N Mh Mn Mm Mt Mk = some Mk9) : Met l yX9_keep wsX9_keep rX9_keep (gP D cI cJ cD [.ref (q 14)] (w_14_15_16 q cI cJ cD Mh Mn Mm Mt Mk)) (gQ D none (w_14_15_16 q cI cJ cD Mh Mn Mm Mt Mk9) (gA q [14, 15, 16])) 0 0 (gA q [14, 15, 16]) := by
  refine Met.ofW (cc := cX9_keep) (maxL := 2) (ret := none) (by decide +kernel) rfl ?_
  intro p e s m args below meth c s₁ B hml hv
  obtain ⟨rfl, hP, hE⟩ := hv
  have hx := B.exec
  have hb := B.bytes
  have hr := B.returns
  have hts := atoms_spec (ws := wsX9_keep) B.pre
  have hown : s.vm.findClass RX9 = some m.cls := findClass_of_methodNamed B.named
  have hlocks := B.notSynchronized
  have hS : va_S (gA q [14, 15, 16]) s.heap s.heap [] := va_S.rf
  have hl := lv_entry ([.ref (q 14)]) (n := 2) (Nat.le_of_ble_eq_true rfl)
  rw [lg_entry_eq]
  generalize (lg_sl ([.ref (q 14)]) ++ List.replicate (2 - (lg_sl ([.ref (q 14)])).length) Slot.unset).toArray = ls at hl ⊢
  have hl : lv_has ls 2 [(0, .ref (q 14))] := hl
  have hDm : ∀ (z0 : Int32) (z1 : Int32) (z2 : Int32) (z3 : (Nat → Int32)) (z4 : (Nat → Int32)), va_D (gA q [14, 15, 16]) (w_14_15_16 q cI cJ cD z0 z1 z2 z3 z4) := fun _ _ _ _ _ => gD_of hq [14, 15, 16] rfl rfl rfl (fun k h => ⟨k, h, rfl⟩)
  have hk39 := hts (.fieldLink RX9 39 "LyndonTextModel" "length" "I") (by decide +kernel)
  have hk13 := hts (.fieldLink RX9 13 "LyndonTextModel" "kept" "[I") (by decide +kernel)
  have hk7 := hts (.fieldLink RX9 7 "LyndonTextModel" "text" "[I") (by decide +kernel)
  have huX9 : ∀ w ∈ u_ws RX9 TX9 11, w ∈ wsX9_keep := by decide +kernel
  have J28 : ∀ (Mk : (Nat → Int32)), fX9_keep_J28 N Mh Mn Mm Mt Mk = some Mk9 → ∀ (H : Heap) (locs : List Loc), va_P D vwCl (w_14_15_16 q cI cJ cD Mh Mn Mm Mt Mk) H → va_S (gA q [14, 15, 16]) s.heap H locs → ∀ ls : Array Slot, lv_has ls 2 [] → W p l e (headSpec wsX9_keep rX9_keep).room s m ([.ref (q 14)] : List Value).toArray below meth c H locs 0 0 (MQ below (gQ D none (w_14_15_16 q cI cJ cD Mh Mn Mm Mt Mk9) (gA q [14, 15, 16])) ([.ref (q 14)] : List Value).toArray s 0 0 (gA q [14, 15, 16])) (F0 m 28 ls []) := by
    intro Mk hf H locs hP hS ls hl
    unfold fX9_keep_J28 at hf
    cases hf
    exact W.vret hx hb hr (fun t ht hW => ⟨⟨rfl, by rw [ht]; exact hP⟩, hS.F ht⟩) hS.2.2 dX9_keep_28
  have K2 : ∀ (n2 : Nat) (Mk : (Nat → Int32)) (x1 : Int32), fX9_keep_H2 N Mh Mn Mm Mt n2 Mk x1 = some Mk9 → ∀ (H : Heap) (locs : List Loc), va_P D vwCl (w_14_15_16 q cI cJ cD Mh Mn Mm Mt Mk) H → va_S (gA q [14, 15, 16]) s.heap H locs → ∀ ls : Array Slot, lv_has ls 2 [(0, .ref (q 14)), (1, .int x1)] → W p l e (headSpec wsX9_keep rX9_keep).room s m ([.ref (q 14)] : List Value).toArray below meth c H locs 0 0 (MQ below (gQ D none (w_14_15_16 q cI cJ cD Mh Mn Mm Mt Mk9) (gA q [14, 15, 16])) ([.ref (q 14)] : List Value).toArray s 0 0 (gA q [14, 15, 16])) (F0 m 2 ls []) := by
    intro n2
    induction n2 with
    | zero =>
      intro Mk x1 hf
      exact nomatch (show (none : Option (Nat → Int32)) = some Mk9 from hf)
    | succ n2 ih2 =>
      intro Mk x1 hf H locs hP hS ls hl
      have hf : fX9_keep_B2 N Mh Mn Mm Mt (fX9_keep_H2 N Mh Mn Mm Mt n2) Mk x1 = some Mk9 := hf
      unfold fX9_keep_B2 at hf
      refine lv_iload_n hx hb dX9_keep_2 rfl (lv_at hl 1 rfl) ?_
      refine lv_aload_n hx hb dX9_keep_3 rfl (lv_at hl 0 rfl) ?_
      refine va_get (D := D) (ci := 7) (v := .int Mn) (C := RX9) (T := TX9) (N := 11) hx hb hts huX9 hown hE.1 hP 0 rfl rfl 1 (by decide) hk39 (fun _ h9 => h9) rfl dX9_keep_4 ?_
      refine lv_icmp_ge (tgt := 28) hx hb dX9_keep_7 (by decide) (fun c_1 => ?_) (fun c_1 => ?_)
      · have hf := (if_pos c_1).symm.trans hf
        exact J28 Mk hf _ _ hP hS _ (lv_sub hl [] rfl)
      · have hf := (if_neg c_1).symm.trans hf
        refine lv_aload_n hx hb dX9_keep_10 rfl (lv_at hl 0 rfl) ?_
        refine va_get (D := D) (ci := 7) (v := .ref (q 16)) (C := RX9) (T := TX9) (N := 11) hx hb hts huX9 hown hE.1 hP 0 rfl rfl 3 (by decide) hk13 (fun _ h9 => h9) rfl dX9_keep_11 ?_
        refine lv_iload_n hx hb dX9_keep_14 rfl (lv_at hl 1 rfl) ?_
        refine lv_aload_n hx hb dX9_keep_15 rfl (lv_at hl 0 rfl) ?_
        refine va_get (D := D) (ci := 7) (v := .ref (q 15)) (C := RX9) (T := TX9) (N := 11) hx hb hts huX9 hown hE.1 hP 0 rfl rfl 2 (by decide) hk7 (fun _ h9 => h9) rfl dX9_keep_16 ?_
        refine lv_iload_n hx hb dX9_keep_19 rfl (lv_at hl 1 rfl) ?_
        obtain ⟨g_2, hf⟩ := gd_some hf
        refine va_iald hx hb hE.1 hP 1 0 rfl rfl (inb_in g_2) dX9_keep_20 ?_
        obtain ⟨g_3, hf⟩ := gd_some hf
        refine va_iast hx hb hE.1 hP (hDm Mh Mn Mm Mt Mk) hS 2 0 rfl rfl (inb_in g_3) dX9_keep_21 (fun H locs hP _ hS => ?_)
        have hP : va_P D vwCl (w_14_15_16 q cI cJ cD Mh Mn Mm Mt (upd Mk (x1).toNatClampNeg (Mt (x1).toNatClampNeg))) H := hP
        refine lv_iinc (v := (x1 + 1)) (lv' := [(1, .int (x1 + 1)), (0, .ref (q 14))]) hx hb dX9_keep_22 hl (k := 1) rfl rfl (by decide) rfl (fun ls hl => ?_)
        refine lv_goto (tgt := 2) hx hb dX9_keep_25 (by decide) ?_
        exact ih2 (upd Mk (x1).toNatClampNeg (Mt (x1).toNatClampNeg)) (x1 + 1) hf _ _ hP hS _ (lv_sub hl [1, 0] rfl)
  unfold fX9_keep at hf
  refine lv_iconst (v := (0 : Int32)) hx hb dX9_keep_0 (by decide) ?_
  refine lv_istore_n (lv' := [(1, .int (0 : Int32)), (0, .ref (q 14))]) hx hb dX9_keep_1 rfl hl (by decide) rfl (fun ls hl => ?_)
  exact K2 N Mk (0 : Int32) hf _ _ hP hS _ (lv_sub hl [1, 0] rfl)
set_option maxHeartbeats 4000000 in
set_option maxRecDepth 100000 in
theorem kX9_reverse (l : Launch) (D : va_G) (cI cJ cD : ClassId) (q : Nat → Nat) (hq : gInj q) (N : Nat) (Mh : Int32) (Mn : Int32) (Mm : Int32) (Mt : (Nat → Int32)) (Mk : (Nat → Int32)) (r0 : Int32) (Mh9 : Int32) (Mt9 : (Nat → Int32)) (Mk9 : (Nat → Int32)) (hf : fX9_reverse N Mh Mn Mm Mt Mk = some (r0, Mh9, Mt9, Mk9)) : Met l yX9_reverse wsX9_reverse rX9_reverse (gP D cI cJ cD [.ref (q 14)] (w_14_15_16 q cI cJ cD Mh Mn Mm Mt Mk)) (gQ D (some (.int r0)) (w_14_15_16 q cI cJ cD Mh9 Mn Mm Mt9 Mk9) (gA q [14, 15, 16])) 0 0 (gA q [14, 15, 16]) := by
  refine Met.ofW (cc := cX9_reverse) (maxL := 2) (ret := (some .int)) (by decide +kernel) rfl ?_
  intro p e s m args below meth c s₁ B hml hv
  obtain ⟨rfl, hP, hE⟩ := hv
  have hx := B.exec
  have hb := B.bytes
  have hr := B.returns
  have hts := atoms_spec (ws := wsX9_reverse) B.pre
  have hown : s.vm.findClass RX9 = some m.cls := findClass_of_methodNamed B.named
  have hlocks := B.notSynchronized
  have hS : va_S (gA q [14, 15, 16]) s.heap s.heap [] := va_S.rf
  have hl := lv_entry ([.ref (q 14)]) (n := 2) (Nat.le_of_ble_eq_true rfl)
  rw [lg_entry_eq]
  generalize (lg_sl ([.ref (q 14)]) ++ List.replicate (2 - (lg_sl ([.ref (q 14)])).length) Slot.unset).toArray = ls at hl ⊢
  have hl : lv_has ls 2 [(0, .ref (q 14))] := hl
  have hDm : ∀ (z0 : Int32) (z1 : Int32) (z2 : Int32) (z3 : (Nat → Int32)) (z4 : (Nat → Int32)), va_D (gA q [14, 15, 16]) (w_14_15_16 q cI cJ cD z0 z1 z2 z3 z4) := fun _ _ _ _ _ => gD_of hq [14, 15, 16] rfl rfl rfl (fun k h => ⟨k, h, rfl⟩)
  have hk35 := hts (.fieldLink RX9 35 "LyndonTextModel" "thrown" "I") (by decide +kernel)
  have hk39 := hts (.fieldLink RX9 39 "LyndonTextModel" "length" "I") (by decide +kernel)
  have hk7 := hts (.fieldLink RX9 7 "LyndonTextModel" "text" "[I") (by decide +kernel)
  have hk13 := hts (.fieldLink RX9 13 "LyndonTextModel" "kept" "[I") (by decide +kernel)
  have huX9 : ∀ w ∈ u_ws RX9 TX9 11, w ∈ wsX9_reverse := by decide +kernel
  have J44 : ∀ (Mh : Int32) (Mt : (Nat → Int32)) (Mk : (Nat → Int32)), fX9_reverse_J44 N Mn Mm Mh Mt Mk = some (r0, Mh9, Mt9, Mk9) → ∀ (H : Heap) (locs : List Loc), va_P D vwCl (w_14_15_16 q cI cJ cD Mh Mn Mm Mt Mk) H → va_S (gA q [14, 15, 16]) s.heap H locs → ∀ ls : Array Slot, lv_has ls 2 [(0, .ref (q 14))] → W p l e (headSpec wsX9_reverse rX9_reverse).room s m ([.ref (q 14)] : List Value).toArray below meth c H locs 0 0 (MQ below (gQ D (some (.int r0)) (w_14_15_16 q cI cJ cD Mh9 Mn Mm Mt9 Mk9) (gA q [14, 15, 16])) ([.ref (q 14)] : List Value).toArray s 0 0 (gA q [14, 15, 16])) (F0 m 44 ls []) := by
    intro Mh Mt Mk hf H locs hP hS ls hl
    unfold fX9_reverse_J44 at hf
    refine lv_aload_n hx hb dX9_reverse_44 rfl (lv_at hl 0 rfl) ?_
    refine va_get (D := D) (ci := 7) (v := .int Mn) (C := RX9) (T := TX9) (N := 11) hx hb hts huX9 hown hE.1 hP 0 rfl rfl 1 (by decide) hk39 (fun _ h9 => h9) rfl dX9_reverse_45 ?_
    cases hf
    exact W.iret hx hb hr (fun t ht hW => ⟨⟨rfl, by rw [ht]; exact hP⟩, hS.F ht⟩) hS.2.2 dX9_reverse_48
  have K11 : ∀ (n11 : Nat) (Mh : Int32) (Mt : (Nat → Int32)) (Mk : (Nat → Int32)) (x1 : Int32), fX9_reverse_H11 N Mn Mm n11 Mh Mt Mk x1 = some (r0, Mh9, Mt9, Mk9) → ∀ (H : Heap) (locs : List Loc), va_P D vwCl (w_14_15_16 q cI cJ cD Mh Mn Mm Mt Mk) H → va_S (gA q [14, 15, 16]) s.heap H locs → ∀ ls : Array Slot, lv_has ls 2 [(0, .ref (q 14)), (1, .int x1)] → W p l e (headSpec wsX9_reverse rX9_reverse).room s m ([.ref (q 14)] : List Value).toArray below meth c H locs 0 0 (MQ below (gQ D (some (.int r0)) (w_14_15_16 q cI cJ cD Mh9 Mn Mm Mt9 Mk9) (gA q [14, 15, 16])) ([.ref (q 14)] : List Value).toArray s 0 0 (gA q [14, 15, 16])) (F0 m 11 ls []) := by
    intro n11
    induction n11 with
    | zero =>
      intro Mh Mt Mk x1 hf
      exact nomatch (show (none : Option (Int32 × Int32 × (Nat → Int32) × (Nat → Int32))) = some (r0, Mh9, Mt9, Mk9) from hf)
    | succ n11 ih11 =>
      intro Mh Mt Mk x1 hf H locs hP hS ls hl
      have hf : fX9_reverse_B11 N Mn Mm (fX9_reverse_H11 N Mn Mm n11) Mh Mt Mk x1 = some (r0, Mh9, Mt9, Mk9) := hf
      unfold fX9_reverse_B11 at hf
      refine lv_iload_n hx hb dX9_reverse_11 rfl (lv_at hl 1 rfl) ?_
      refine lv_aload_n hx hb dX9_reverse_12 rfl (lv_at hl 0 rfl) ?_
      refine va_get (D := D) (ci := 7) (v := .int Mn) (C := RX9) (T := TX9) (N := 11) hx hb hts huX9 hown hE.1 hP 0 rfl rfl 1 (by decide) hk39 (fun _ h9 => h9) rfl dX9_reverse_13 ?_
      refine lv_icmp_ge (tgt := 44) hx hb dX9_reverse_16 (by decide) (fun c_1 => ?_) (fun c_1 => ?_)
      · have hf := (if_pos c_1).symm.trans hf
        exact J44 Mh Mt Mk hf _ _ hP hS _ (lv_sub hl [0] rfl)
      · have hf := (if_neg c_1).symm.trans hf
        refine lv_aload_n hx hb dX9_reverse_19 rfl (lv_at hl 0 rfl) ?_
        refine va_get (D := D) (ci := 7) (v := .ref (q 15)) (C := RX9) (T := TX9) (N := 11) hx hb hts huX9 hown hE.1 hP 0 rfl rfl 2 (by decide) hk7 (fun _ h9 => h9) rfl dX9_reverse_20 ?_
        refine lv_iload_n hx hb dX9_reverse_23 rfl (lv_at hl 1 rfl) ?_
        refine lv_aload_n hx hb dX9_reverse_24 rfl (lv_at hl 0 rfl) ?_
        refine va_get (D := D) (ci := 7) (v := .ref (q 16)) (C := RX9) (T := TX9) (N := 11) hx hb hts huX9 hown hE.1 hP 0 rfl rfl 3 (by decide) hk13 (fun _ h9 => h9) rfl dX9_reverse_25 ?_
        refine lv_aload_n hx hb dX9_reverse_28 rfl (lv_at hl 0 rfl) ?_
        refine va_get (D := D) (ci := 7) (v := .int Mn) (C := RX9) (T := TX9) (N := 11) hx hb hts huX9 hown hE.1 hP 0 rfl rfl 1 (by decide) hk39 (fun _ h9 => h9) rfl dX9_reverse_29 ?_
        refine lv_iconst (v := (1 : Int32)) hx hb dX9_reverse_32 (by decide) ?_
        refine lv_isub hx hb dX9_reverse_33 ?_
        refine lv_iload_n hx hb dX9_reverse_34 rfl (lv_at hl 1 rfl) ?_
        refine lv_isub hx hb dX9_reverse_35 ?_
        obtain ⟨g_2, hf⟩ := gd_some hf
        refine va_iald hx hb hE.1 hP 2 0 rfl rfl (inb_in g_2) dX9_reverse_36 ?_
        obtain ⟨g_3, hf⟩ := gd_some hf
        refine va_iast hx hb hE.1 hP (hDm Mh Mn Mm Mt Mk) hS 1 0 rfl rfl (inb_in g_3) dX9_reverse_37 (fun H locs hP _ hS => ?_)
        have hP : va_P D vwCl (w_14_15_16 q cI cJ cD Mh Mn Mm (upd Mt (x1).toNatClampNeg (Mk (((Mn - (1 : Int32)) - x1)).toNatClampNeg)) Mk) H := hP
        refine lv_iinc (v := (x1 + 1)) (lv' := [(1, .int (x1 + 1)), (0, .ref (q 14))]) hx hb dX9_reverse_38 hl (k := 1) rfl rfl (by decide) rfl (fun ls hl => ?_)
        refine lv_goto (tgt := 11) hx hb dX9_reverse_41 (by decide) ?_
        exact ih11 Mh (upd Mt (x1).toNatClampNeg (Mk (((Mn - (1 : Int32)) - x1)).toNatClampNeg)) Mk (x1 + 1) hf _ _ hP hS _ (lv_sub hl [1, 0] rfl)
  unfold fX9_reverse at hf
  refine lv_aload_n hx hb dX9_reverse_0 rfl (lv_at hl 0 rfl) ?_
  refine lv_iconst (v := (0 : Int32)) hx hb dX9_reverse_1 (by decide) ?_
  refine va_put (D := D) (ci := 7) (v := .int (0 : Int32)) (ty := .int) (C := RX9) (T := TX9) (N := 11) hx hb hts huX9 tyX9 tyX9_ok nmX9 hown hE.1 hP (hDm Mh Mn Mm Mt Mk) hS 0 rfl rfl 0 (by decide) hk35 (fun _ h9 => h9) rfl (by decide +kernel) rfl rfl (Nat.le_of_ble_eq_true rfl) dX9_reverse_2 (fun H locs hP _ hS => ?_)
  have hP : va_P D vwCl (w_14_15_16 q cI cJ cD (0 : Int32) Mn Mm Mt Mk) H := hP
  refine lv_aload_n hx hb dX9_reverse_5 rfl (lv_at hl 0 rfl) ?_
  obtain ⟨Mk6, hc, hf⟩ := bn_some hf
  try dsimp only at hf
  refine g_call0 (ws' := (w_14_15_16 q cI cJ cD (0 : Int32) Mn Mm Mt Mk6)) (st1 := []) hq [14, 15, 16] [14, 15, 16] [.inl 0, .inl 1, .inl 2] (va_runV (As := []) (rest := []) ⟨hx, hb, hml, hown, hts⟩ (kX9_keep l D cI cJ cD q hq N (0 : Int32) Mn Mm Mt Mk Mk6 hc) (cwV 0 hts gX9_reverse_X9_keep rfl rfl rfl (by decide +kernel) ⟨(Nat.le_of_ble_eq_true rfl), (Nat.le_of_ble_eq_true rfl)⟩) ⟨gP_blind, va_recv hE.1 hP (ci := 7) (q0 := 0) rfl rfl, fun U hU hW => ⟨rfl, by rw [hU]; exact hP.sub (ws' := (w_14_15_16 q cI cJ cD (0 : Int32) Mn Mm Mt Mk)) [0, 1, 2] rfl, gEv.warm hW hE⟩⟩ rfl rfl hl.1 rfl (lv_room (Nat.le_of_ble_eq_true rfl)) dX9_reverse_6 ⟨Nat.zero_le _, Nat.zero_le _⟩) hP hS (gSub rfl) rfl rfl rfl rfl rfl (fun H locs hP hS => ?_)
  refine lv_iconst (v := (0 : Int32)) hx hb dX9_reverse_9 (by decide) ?_
  refine lv_istore_n (lv' := [(1, .int (0 : Int32)), (0, .ref (q 14))]) hx hb dX9_reverse_10 rfl hl (by decide) rfl (fun ls hl => ?_)
  exact K11 N (0 : Int32) Mt Mk6 (0 : Int32) hf _ _ hP hS _ (lv_sub hl [1, 0] rfl)
set_option maxHeartbeats 4000000 in
set_option maxRecDepth 100000 in
theorem kX9_rotate (l : Launch) (D : va_G) (cI cJ cD : ClassId) (q : Nat → Nat) (hq : gInj q) (N : Nat) (Mh : Int32) (Mn : Int32) (Mm : Int32) (Mt : (Nat → Int32)) (Mk : (Nat → Int32)) (p1 : Int32) (r0 : Int32) (Mh9 : Int32) (Mt9 : (Nat → Int32)) (Mk9 : (Nat → Int32)) (hf : fX9_rotate N Mh Mn Mm Mt Mk p1 = some (r0, Mh9, Mt9, Mk9)) : Met l yX9_rotate wsX9_rotate rX9_rotate (gP D cI cJ cD [.ref (q 14), .int p1] (w_14_15_16 q cI cJ cD Mh Mn Mm Mt Mk)) (gQ D (some (.int r0)) (w_14_15_16 q cI cJ cD Mh9 Mn Mm Mt9 Mk9) (gA q [14, 15, 16])) 0 0 (gA q [14, 15, 16]) := by
  refine Met.ofW (cc := cX9_rotate) (maxL := 3) (ret := (some .int)) (by decide +kernel) rfl ?_
  intro p e s m args below meth c s₁ B hml hv
  obtain ⟨rfl, hP, hE⟩ := hv
  have hx := B.exec
  have hb := B.bytes
  have hr := B.returns
  have hts := atoms_spec (ws := wsX9_rotate) B.pre
  have hown : s.vm.findClass RX9 = some m.cls := findClass_of_methodNamed B.named
  have hlocks := B.notSynchronized
  have hS : va_S (gA q [14, 15, 16]) s.heap s.heap [] := va_S.rf
  have hl := lv_entry ([.ref (q 14), .int p1]) (n := 3) (Nat.le_of_ble_eq_true rfl)
  rw [lg_entry_eq]
  generalize (lg_sl ([.ref (q 14), .int p1]) ++ List.replicate (3 - (lg_sl ([.ref (q 14), .int p1])).length) Slot.unset).toArray = ls at hl ⊢
  have hl : lv_has ls 3 [(0, .ref (q 14)), (1, .int p1)] := hl
  have hDm : ∀ (z0 : Int32) (z1 : Int32) (z2 : Int32) (z3 : (Nat → Int32)) (z4 : (Nat → Int32)), va_D (gA q [14, 15, 16]) (w_14_15_16 q cI cJ cD z0 z1 z2 z3 z4) := fun _ _ _ _ _ => gD_of hq [14, 15, 16] rfl rfl rfl (fun k h => ⟨k, h, rfl⟩)
  have hk39 := hts (.fieldLink RX9 39 "LyndonTextModel" "length" "I") (by decide +kernel)
  have hk7 := hts (.fieldLink RX9 7 "LyndonTextModel" "text" "[I") (by decide +kernel)
  have hk13 := hts (.fieldLink RX9 13 "LyndonTextModel" "kept" "[I") (by decide +kernel)
  have huX9 : ∀ w ∈ u_ws RX9 TX9 11, w ∈ wsX9_rotate := by decide +kernel
  have J74 : ∀ (Mh : Int32) (Mt : (Nat → Int32)) (Mk : (Nat → Int32)), fX9_rotate_J74 N Mn Mm Mh Mt Mk = some (r0, Mh9, Mt9, Mk9) → ∀ (H : Heap) (locs : List Loc), va_P D vwCl (w_14_15_16 q cI cJ cD Mh Mn Mm Mt Mk) H → va_S (gA q [14, 15, 16]) s.heap H locs → ∀ ls : Array Slot, lv_has ls 3 [(0, .ref (q 14))] → W p l e (headSpec wsX9_rotate rX9_rotate).room s m ([.ref (q 14), .int p1] : List Value).toArray below meth c H locs 0 0 (MQ below (gQ D (some (.int r0)) (w_14_15_16 q cI cJ cD Mh9 Mn Mm Mt9 Mk9) (gA q [14, 15, 16])) ([.ref (q 14), .int p1] : List Value).toArray s 0 0 (gA q [14, 15, 16])) (F0 m 74 ls []) := by
    intro Mh Mt Mk hf H locs hP hS ls hl
    unfold fX9_rotate_J74 at hf
    refine lv_aload_n hx hb dX9_rotate_74 rfl (lv_at hl 0 rfl) ?_
    refine va_get (D := D) (ci := 7) (v := .ref (q 15)) (C := RX9) (T := TX9) (N := 11) hx hb hts huX9 hown hE.1 hP 0 rfl rfl 2 (by decide) hk7 (fun _ h9 => h9) rfl dX9_rotate_75 ?_
    refine lv_iconst (v := (0 : Int32)) hx hb dX9_rotate_78 (by decide) ?_
    obtain ⟨g_1, hf⟩ := gd_some hf
    refine va_iald hx hb hE.1 hP 1 0 rfl rfl (inb_in g_1) dX9_rotate_79 ?_
    cases hf
    exact W.iret hx hb hr (fun t ht hW => ⟨⟨rfl, by rw [ht]; exact hP⟩, hS.F ht⟩) hS.2.2 dX9_rotate_80
  have K41 : ∀ (n41 : Nat) (Mh : Int32) (Mt : (Nat → Int32)) (Mk : (Nat → Int32)) (x1 : Int32) (x2 : Int32), fX9_rotate_H41 N Mn Mm n41 Mh Mt Mk x1 x2 = some (r0, Mh9, Mt9, Mk9) → ∀ (H : Heap) (locs : List Loc), va_P D vwCl (w_14_15_16 q cI cJ cD Mh Mn Mm Mt Mk) H → va_S (gA q [14, 15, 16]) s.heap H locs → ∀ ls : Array Slot, lv_has ls 3 [(0, .ref (q 14)), (1, .int x1), (2, .int x2)] → W p l e (headSpec wsX9_rotate rX9_rotate).room s m ([.ref (q 14), .int p1] : List Value).toArray below meth c H locs 0 0 (MQ below (gQ D (some (.int r0)) (w_14_15_16 q cI cJ cD Mh9 Mn Mm Mt9 Mk9) (gA q [14, 15, 16])) ([.ref (q 14), .int p1] : List Value).toArray s 0 0 (gA q [14, 15, 16])) (F0 m 41 ls []) := by
    intro n41
    induction n41 with
    | zero =>
      intro Mh Mt Mk x1 x2 hf
      exact nomatch (show (none : Option (Int32 × Int32 × (Nat → Int32) × (Nat → Int32))) = some (r0, Mh9, Mt9, Mk9) from hf)
    | succ n41 ih41 =>
      intro Mh Mt Mk x1 x2 hf H locs hP hS ls hl
      have hf : fX9_rotate_B41 N Mn Mm (fX9_rotate_H41 N Mn Mm n41) Mh Mt Mk x1 x2 = some (r0, Mh9, Mt9, Mk9) := hf
      unfold fX9_rotate_B41 at hf
      refine lv_iload_n hx hb dX9_rotate_41 rfl (lv_at hl 2 rfl) ?_
      refine lv_aload_n hx hb dX9_rotate_42 rfl (lv_at hl 0 rfl) ?_
      refine va_get (D := D) (ci := 7) (v := .int Mn) (C := RX9) (T := TX9) (N := 11) hx hb hts huX9 hown hE.1 hP 0 rfl rfl 1 (by decide) hk39 (fun _ h9 => h9) rfl dX9_rotate_43 ?_
      refine lv_icmp_ge (tgt := 74) hx hb dX9_rotate_46 (by decide) (fun c_2 => ?_) (fun c_2 => ?_)
      · have hf := (if_pos c_2).symm.trans hf
        exact J74 Mh Mt Mk hf _ _ hP hS _ (lv_sub hl [0] rfl)
      · have hf := (if_neg c_2).symm.trans hf
        refine lv_aload_n hx hb dX9_rotate_49 rfl (lv_at hl 0 rfl) ?_
        refine va_get (D := D) (ci := 7) (v := .ref (q 15)) (C := RX9) (T := TX9) (N := 11) hx hb hts huX9 hown hE.1 hP 0 rfl rfl 2 (by decide) hk7 (fun _ h9 => h9) rfl dX9_rotate_50 ?_
        refine lv_iload_n hx hb dX9_rotate_53 rfl (lv_at hl 2 rfl) ?_
        refine lv_aload_n hx hb dX9_rotate_54 rfl (lv_at hl 0 rfl) ?_
        refine va_get (D := D) (ci := 7) (v := .ref (q 16)) (C := RX9) (T := TX9) (N := 11) hx hb hts huX9 hown hE.1 hP 0 rfl rfl 3 (by decide) hk13 (fun _ h9 => h9) rfl dX9_rotate_55 ?_
        refine lv_iload_n hx hb dX9_rotate_58 rfl (lv_at hl 2 rfl) ?_
        refine lv_iload_n hx hb dX9_rotate_59 rfl (lv_at hl 1 rfl) ?_
        refine lv_iadd hx hb dX9_rotate_60 ?_
        refine lv_aload_n hx hb dX9_rotate_61 rfl (lv_at hl 0 rfl) ?_
        refine va_get (D := D) (ci := 7) (v := .int Mn) (C := RX9) (T := TX9) (N := 11) hx hb hts huX9 hown hE.1 hP 0 rfl rfl 1 (by decide) hk39 (fun _ h9 => h9) rfl dX9_rotate_62 ?_
        obtain ⟨g_3, hf⟩ := gd_some hf
        refine lv_irem hx hb dX9_rotate_65 (nz_ne g_3) ?_
        obtain ⟨g_4, hf⟩ := gd_some hf
        refine va_iald hx hb hE.1 hP 2 0 rfl rfl (inb_in g_4) dX9_rotate_66 ?_
        obtain ⟨g_5, hf⟩ := gd_some hf
        refine va_iast hx hb hE.1 hP (hDm Mh Mn Mm Mt Mk) hS 1 0 rfl rfl (inb_in g_5) dX9_rotate_67 (fun H locs hP _ hS => ?_)
        have hP : va_P D vwCl (w_14_15_16 q cI cJ cD Mh Mn Mm (upd Mt (x2).toNatClampNeg (Mk (((x2 + x1) - (x2 + x1) / Mn * Mn)).toNatClampNeg)) Mk) H := hP
        refine lv_iinc (v := (x2 + 1)) (lv' := [(2, .int (x2 + 1)), (0, .ref (q 14)), (1, .int x1)]) hx hb dX9_rotate_68 hl (k := 2) rfl rfl (by decide) rfl (fun ls hl => ?_)
        refine lv_goto (tgt := 41) hx hb dX9_rotate_71 (by decide) ?_
        exact ih41 Mh (upd Mt (x2).toNatClampNeg (Mk (((x2 + x1) - (x2 + x1) / Mn * Mn)).toNatClampNeg)) Mk x1 (x2 + 1) hf _ _ hP hS _ (lv_sub hl [1, 2, 0] rfl)
  have J27 : ∀ (Mh : Int32) (Mt : (Nat → Int32)) (Mk : (Nat → Int32)) (x1 : Int32) (y1 : Int32), fX9_rotate_J27 N Mn Mm Mh Mt Mk x1 y1 = some (r0, Mh9, Mt9, Mk9) → ∀ (H : Heap) (locs : List Loc), va_P D vwCl (w_14_15_16 q cI cJ cD Mh Mn Mm Mt Mk) H → va_S (gA q [14, 15, 16]) s.heap H locs → ∀ ls : Array Slot, lv_has ls 3 [(0, .ref (q 14)), (1, .int x1)] → W p l e (headSpec wsX9_rotate rX9_rotate).room s m ([.ref (q 14), .int p1] : List Value).toArray below meth c H locs 0 0 (MQ below (gQ D (some (.int r0)) (w_14_15_16 q cI cJ cD Mh9 Mn Mm Mt9 Mk9) (gA q [14, 15, 16])) ([.ref (q 14), .int p1] : List Value).toArray s 0 0 (gA q [14, 15, 16])) (F0 m 27 ls [.int y1, .ref (q 14)]) := by
    intro Mh Mt Mk x1 y1 hf H locs hP hS ls hl
    unfold fX9_rotate_J27 at hf
    obtain ⟨⟨r27, Mh27⟩, hc, hf⟩ := bn_some hf
    try dsimp only at hf
    refine g_call0 (ws' := (w_14_15_16 q cI cJ cD Mh27 Mn Mm Mt Mk)) (st1 := [.int r27]) hq [14, 15, 16] [14] [.inl 0, .inr 1, .inr 2] (va_runV (As := [.int y1]) (rest := []) ⟨hx, hb, hml, hown, hts⟩ (kX9_goesWell l D cI cJ cD q hq N Mh Mn Mm y1 r27 Mh27 hc) (cwV 1 hts gX9_rotate_X9_goesWell rfl rfl rfl (by decide +kernel) ⟨(Nat.le_of_ble_eq_true rfl), (Nat.le_of_ble_eq_true rfl)⟩) ⟨gP_blind, va_recv hE.1 hP (ci := 7) (q0 := 0) rfl rfl, fun U hU hW => ⟨rfl, by rw [hU]; exact hP.sub (ws' := (w_14 q cI cJ cD Mh Mn Mm)) [0] rfl, gEv.warm hW hE⟩⟩ rfl rfl hl.1 rfl (lv_room (Nat.le_of_ble_eq_true rfl)) dX9_rotate_27 ⟨Nat.zero_le _, Nat.zero_le _⟩) hP hS (gSub rfl) rfl rfl rfl rfl rfl (fun H locs hP hS => ?_)
    refine lv_if_ne (tgt := 35) hx hb dX9_rotate_30 (by decide) (fun c_6 => ?_) (fun c_6 => ?_)
    · have hf := (if_neg c_6).symm.trans hf
      refine lv_aload_n hx hb dX9_rotate_35 rfl (lv_at hl 0 rfl) ?_
      obtain ⟨Mk36, hc, hf⟩ := bn_some hf
      try dsimp only at hf
      refine g_call0 (ws' := (w_14_15_16 q cI cJ cD Mh27 Mn Mm Mt Mk36)) (st1 := []) hq [14, 15, 16] [14, 15, 16] [.inl 0, .inl 1, .inl 2] (va_runV (As := []) (rest := []) ⟨hx, hb, hml, hown, hts⟩ (kX9_keep l D cI cJ cD q hq N Mh27 Mn Mm Mt Mk Mk36 hc) (cwV 0 hts gX9_rotate_X9_keep rfl rfl rfl (by decide +kernel) ⟨(Nat.le_of_ble_eq_true rfl), (Nat.le_of_ble_eq_true rfl)⟩) ⟨gP_blind, va_recv hE.1 hP (ci := 7) (q0 := 0) rfl rfl, fun U hU hW => ⟨rfl, by rw [hU]; exact hP.sub (ws' := (w_14_15_16 q cI cJ cD Mh27 Mn Mm Mt Mk)) [0, 1, 2] rfl, gEv.warm hW hE⟩⟩ rfl rfl hl.1 rfl (lv_room (Nat.le_of_ble_eq_true rfl)) dX9_rotate_36 ⟨Nat.zero_le _, Nat.zero_le _⟩) hP hS (gSub rfl) rfl rfl rfl rfl rfl (fun H locs hP hS => ?_)
      refine lv_iconst (v := (0 : Int32)) hx hb dX9_rotate_39 (by decide) ?_
      refine lv_istore_n (lv' := [(2, .int (0 : Int32)), (0, .ref (q 14)), (1, .int x1)]) hx hb dX9_rotate_40 rfl hl (by decide) rfl (fun ls hl => ?_)
      exact K41 N Mh27 Mt Mk36 x1 (0 : Int32) hf _ _ hP hS _ (lv_sub hl [1, 2, 0] rfl)
    · have hf := (if_pos c_6).symm.trans hf
      refine lv_iconst (v := (0 : Int32)) hx hb dX9_rotate_33 (by decide) ?_
      cases hf
      exact W.iret hx hb hr (fun t ht hW => ⟨⟨rfl, by rw [ht]; exact hP⟩, hS.F ht⟩) hS.2.2 dX9_rotate_34
  unfold fX9_rotate at hf
  refine lv_aload_n hx hb dX9_rotate_0 rfl (lv_at hl 0 rfl) ?_
  refine lv_iload_n hx hb dX9_rotate_1 rfl (lv_at hl 1 rfl) ?_
  refine lv_iconst (v := (0 : Int32)) hx hb dX9_rotate_2 (by decide) ?_
  refine lv_bipush (v := (63 : Int32)) hx hb dX9_rotate_3 (by decide) ?_
  obtain ⟨r5, hc, hf⟩ := bn_some hf
  try dsimp only at hf
  refine g_call0 (ws' := (w_14_15_16 q cI cJ cD Mh Mn Mm Mt Mk)) (st1 := [.int r5, .ref (q 14)]) hq [14, 15, 16] [] [.inr 0, .inr 1, .inr 2] (va_runS (As := [.int p1, .int (0 : Int32), .int (63 : Int32)]) (rest := [.ref (q 14)]) ⟨hx, hb, hml, hown, hts⟩ (kX9_in l D cI cJ cD q hq N p1 (0 : Int32) (63 : Int32) r5 hc) (va_cwS 3 hts gX9_rotate_X9_in rfl rfl rfl (by decide +kernel) ⟨(Nat.le_of_ble_eq_true rfl), (Nat.le_of_ble_eq_true rfl)⟩) ⟨gP_blind, fun U hU hW => ⟨rfl, by rw [hU]; exact hP.sub (ws' := (w_0none q cI cJ cD)) [] rfl, gEv.warm hW hE⟩⟩ rfl rfl hl.1 rfl (lv_room (Nat.le_of_ble_eq_true rfl)) dX9_rotate_5 ⟨Nat.zero_le _, Nat.zero_le _⟩) hP hS (gSub rfl) rfl rfl rfl rfl rfl (fun H locs hP hS => ?_)
  refine lv_if_ne (tgt := 15) hx hb dX9_rotate_8 (by decide) (fun c_7 => ?_) (fun c_7 => ?_)
  · have hf := (if_neg c_7).symm.trans hf
    refine lv_aload_n hx hb dX9_rotate_15 rfl (lv_at hl 0 rfl) ?_
    refine va_get (D := D) (ci := 7) (v := .int Mn) (C := RX9) (T := TX9) (N := 11) hx hb hts huX9 hown hE.1 hP 0 rfl rfl 1 (by decide) hk39 (fun _ h9 => h9) rfl dX9_rotate_16 ?_
    refine lv_if_ne (tgt := 26) hx hb dX9_rotate_19 (by decide) (fun c_8 => ?_) (fun c_8 => ?_)
    · have hf := (if_neg c_8).symm.trans hf
      refine lv_iconst (v := (0 : Int32)) hx hb dX9_rotate_26 (by decide) ?_
      exact J27 Mh Mt Mk p1 (0 : Int32) hf _ _ hP hS _ (lv_sub hl [0, 1] rfl)
    · have hf := (if_pos c_8).symm.trans hf
      refine lv_iconst (v := (2 : Int32)) hx hb dX9_rotate_22 (by decide) ?_
      refine lv_goto (tgt := 27) hx hb dX9_rotate_23 (by decide) ?_
      exact J27 Mh Mt Mk p1 (2 : Int32) hf _ _ hP hS _ (lv_sub hl [0, 1] rfl)
  · have hf := (if_pos c_7).symm.trans hf
    refine lv_iconst (v := (1 : Int32)) hx hb dX9_rotate_11 (by decide) ?_
    refine lv_goto (tgt := 27) hx hb dX9_rotate_12 (by decide) ?_
    exact J27 Mh Mt Mk p1 (1 : Int32) hf _ _ hP hS _ (lv_sub hl [0, 1] rfl)
set_option maxHeartbeats 4000000 in
set_option maxRecDepth 100000 in
theorem kX9_appendPart (l : Launch) (D : va_G) (cI cJ cD : ClassId) (q : Nat → Nat) (hq : gInj q) (N : Nat) (Mh : Int32) (Mn : Int32) (Mm : Int32) (Mt : (Nat → Int32)) (p1 : Int32) (p2 : Int32) (r0 : Int32) (Mh9 : Int32) (Mn9 : Int32) (Mt9 : (Nat → Int32)) (hf : fX9_appendPart N Mh Mn Mm Mt p1 p2 = some (r0, Mh9, Mn9, Mt9)) : Met l yX9_appendPart wsX9_appendPart rX9_appendPart (gP D cI cJ cD [.ref (q 14), .int p1, .int p2] (w_14_15 q cI cJ cD Mh Mn Mm Mt)) (gQ D (some (.int r0)) (w_14_15 q cI cJ cD Mh9 Mn9 Mm Mt9) (gA q [14, 15])) 0 0 (gA q [14, 15]) := by
  refine Met.ofW (cc := cX9_appendPart) (maxL := 4) (ret := (some .int)) (by decide +kernel) rfl ?_
  intro p e s m args below meth c s₁ B hml hv
  obtain ⟨rfl, hP, hE⟩ := hv
  have hx := B.exec
  have hb := B.bytes
  have hr := B.returns
  have hts := atoms_spec (ws := wsX9_appendPart) B.pre
  have hown : s.vm.findClass RX9 = some m.cls := findClass_of_methodNamed B.named
  have hlocks := B.notSynchronized
  have hS : va_S (gA q [14, 15]) s.heap s.heap [] := va_S.rf
  have hl := lv_entry ([.ref (q 14), .int p1, .int p2]) (n := 4) (Nat.le_of_ble_eq_true rfl)
  rw [lg_entry_eq]
  generalize (lg_sl ([.ref (q 14), .int p1, .int p2]) ++ List.replicate (4 - (lg_sl ([.ref (q 14), .int p1, .int p2])).length) Slot.unset).toArray = ls at hl ⊢
  have hl : lv_has ls 4 [(0, .ref (q 14)), (1, .int p1), (2, .int p2)] := hl
  have hDm : ∀ (z0 : Int32) (z1 : Int32) (z2 : Int32) (z3 : (Nat → Int32)), va_D (gA q [14, 15]) (w_14_15 q cI cJ cD z0 z1 z2 z3) := fun _ _ _ _ => gD_of hq [14, 15] rfl rfl rfl (fun k h => ⟨k, h, rfl⟩)
  have hk39 := hts (.fieldLink RX9 39 "LyndonTextModel" "length" "I") (by decide +kernel)
  have hk7 := hts (.fieldLink RX9 7 "LyndonTextModel" "text" "[I") (by decide +kernel)
  have huX9 : ∀ w ∈ u_ws RX9 TX9 11, w ∈ wsX9_appendPart := by decide +kernel
  have J78 : ∀ (Mh : Int32) (Mn : Int32) (Mt : (Nat → Int32)), fX9_appendPart_J78 N Mm Mh Mn Mt = some (r0, Mh9, Mn9, Mt9) → ∀ (H : Heap) (locs : List Loc), va_P D vwCl (w_14_15 q cI cJ cD Mh Mn Mm Mt) H → va_S (gA q [14, 15]) s.heap H locs → ∀ ls : Array Slot, lv_has ls 4 [(0, .ref (q 14))] → W p l e (headSpec wsX9_appendPart rX9_appendPart).room s m ([.ref (q 14), .int p1, .int p2] : List Value).toArray below meth c H locs 0 0 (MQ below (gQ D (some (.int r0)) (w_14_15 q cI cJ cD Mh9 Mn9 Mm Mt9) (gA q [14, 15])) ([.ref (q 14), .int p1, .int p2] : List Value).toArray s 0 0 (gA q [14, 15])) (F0 m 78 ls []) := by
    intro Mh Mn Mt hf H locs hP hS ls hl
    unfold fX9_appendPart_J78 at hf
    refine lv_aload_n hx hb dX9_appendPart_78 rfl (lv_at hl 0 rfl) ?_
    refine va_get (D := D) (ci := 7) (v := .int Mn) (C := RX9) (T := TX9) (N := 11) hx hb hts huX9 hown hE.1 hP 0 rfl rfl 1 (by decide) hk39 (fun _ h9 => h9) rfl dX9_appendPart_79 ?_
    cases hf
    exact W.iret hx hb hr (fun t ht hW => ⟨⟨rfl, by rw [ht]; exact hP⟩, hS.F ht⟩) hS.2.2 dX9_appendPart_82
  have K42 : ∀ (n42 : Nat) (Mh : Int32) (Mn : Int32) (Mt : (Nat → Int32)) (x2 : Int32) (x3 : Int32), fX9_appendPart_H42 N Mm n42 Mh Mn Mt x2 x3 = some (r0, Mh9, Mn9, Mt9) → ∀ (H : Heap) (locs : List Loc), va_P D vwCl (w_14_15 q cI cJ cD Mh Mn Mm Mt) H → va_S (gA q [14, 15]) s.heap H locs → ∀ ls : Array Slot, lv_has ls 4 [(0, .ref (q 14)), (2, .int x2), (3, .int x3)] → W p l e (headSpec wsX9_appendPart rX9_appendPart).room s m ([.ref (q 14), .int p1, .int p2] : List Value).toArray below meth c H locs 0 0 (MQ below (gQ D (some (.int r0)) (w_14_15 q cI cJ cD Mh9 Mn9 Mm Mt9) (gA q [14, 15])) ([.ref (q 14), .int p1, .int p2] : List Value).toArray s 0 0 (gA q [14, 15])) (F0 m 42 ls []) := by
    intro n42
    induction n42 with
    | zero =>
      intro Mh Mn Mt x2 x3 hf
      exact nomatch (show (none : Option (Int32 × Int32 × Int32 × (Nat → Int32))) = some (r0, Mh9, Mn9, Mt9) from hf)
    | succ n42 ih42 =>
      intro Mh Mn Mt x2 x3 hf H locs hP hS ls hl
      have hf : fX9_appendPart_B42 N Mm (fX9_appendPart_H42 N Mm n42) Mh Mn Mt x2 x3 = some (r0, Mh9, Mn9, Mt9) := hf
      unfold fX9_appendPart_B42 at hf
      refine lv_iload_n hx hb dX9_appendPart_42 rfl (lv_at hl 2 rfl) ?_
      refine lv_iload_n hx hb dX9_appendPart_43 rfl (lv_at hl 1 rfl) ?_
      refine lv_icmp_ge (tgt := 78) hx hb dX9_appendPart_44 (by decide) (fun c_1 => ?_) (fun c_1 => ?_)
      · have hf := (if_pos c_1).symm.trans hf
        exact J78 Mh Mn Mt hf _ _ hP hS _ (lv_sub hl [0] rfl)
      · have hf := (if_neg c_1).symm.trans hf
        refine lv_aload_n hx hb dX9_appendPart_47 rfl (lv_at hl 0 rfl) ?_
        refine va_get (D := D) (ci := 7) (v := .ref (q 15)) (C := RX9) (T := TX9) (N := 11) hx hb hts huX9 hown hE.1 hP 0 rfl rfl 2 (by decide) hk7 (fun _ h9 => h9) rfl dX9_appendPart_48 ?_
        refine lv_aload_n hx hb dX9_appendPart_51 rfl (lv_at hl 0 rfl) ?_
        refine va_get (D := D) (ci := 7) (v := .int Mn) (C := RX9) (T := TX9) (N := 11) hx hb hts huX9 hown hE.1 hP 0 rfl rfl 1 (by decide) hk39 (fun _ h9 => h9) rfl dX9_appendPart_52 ?_
        refine lv_aload_n hx hb dX9_appendPart_55 rfl (lv_at hl 0 rfl) ?_
        refine va_get (D := D) (ci := 7) (v := .ref (q 15)) (C := RX9) (T := TX9) (N := 11) hx hb hts huX9 hown hE.1 hP 0 rfl rfl 2 (by decide) hk7 (fun _ h9 => h9) rfl dX9_appendPart_56 ?_
        refine lv_iload_n hx hb dX9_appendPart_59 rfl (lv_at hl 2 rfl) ?_
        obtain ⟨g_2, hf⟩ := gd_some hf
        refine va_iald hx hb hE.1 hP 1 0 rfl rfl (inb_in g_2) dX9_appendPart_60 ?_
        obtain ⟨g_3, hf⟩ := gd_some hf
        refine va_iast hx hb hE.1 hP (hDm Mh Mn Mm Mt) hS 1 0 rfl rfl (inb_in g_3) dX9_appendPart_61 (fun H locs hP _ hS => ?_)
        have hP : va_P D vwCl (w_14_15 q cI cJ cD Mh Mn Mm (upd Mt (Mn).toNatClampNeg (Mt (x3).toNatClampNeg))) H := hP
        refine lv_aload_n hx hb dX9_appendPart_62 rfl (lv_at hl 0 rfl) ?_
        refine lv_dup hx hb dX9_appendPart_63 rfl ?_
        refine va_get (D := D) (ci := 7) (v := .int Mn) (C := RX9) (T := TX9) (N := 11) hx hb hts huX9 hown hE.1 hP 0 rfl rfl 1 (by decide) hk39 (fun _ h9 => h9) rfl dX9_appendPart_64 ?_
        refine lv_iconst (v := (1 : Int32)) hx hb dX9_appendPart_67 (by decide) ?_
        refine lv_iadd hx hb dX9_appendPart_68 ?_
        refine va_put (D := D) (ci := 7) (v := .int (Mn + (1 : Int32))) (ty := .int) (C := RX9) (T := TX9) (N := 11) hx hb hts huX9 tyX9 tyX9_ok nmX9 hown hE.1 hP (hDm Mh Mn Mm (upd Mt (Mn).toNatClampNeg (Mt (x3).toNatClampNeg))) hS 0 rfl rfl 1 (by decide) hk39 (fun _ h9 => h9) rfl (by decide +kernel) rfl rfl (Nat.le_of_ble_eq_true rfl) dX9_appendPart_69 (fun H locs hP _ hS => ?_)
        have hP : va_P D vwCl (w_14_15 q cI cJ cD Mh (Mn + (1 : Int32)) Mm (upd Mt (Mn).toNatClampNeg (Mt (x3).toNatClampNeg))) H := hP
        refine lv_iinc (v := (x3 + 1)) (lv' := [(3, .int (x3 + 1)), (0, .ref (q 14)), (2, .int x2)]) hx hb dX9_appendPart_72 hl (k := 2) rfl rfl (by decide) rfl (fun ls hl => ?_)
        refine lv_goto (tgt := 42) hx hb dX9_appendPart_75 (by decide) ?_
        exact ih42 Mh (Mn + (1 : Int32)) (upd Mt (Mn).toNatClampNeg (Mt (x3).toNatClampNeg)) x2 (x3 + 1) hf _ _ hP hS _ (lv_sub hl [1, 2, 0] rfl)
  have J32 : ∀ (Mh : Int32) (Mn : Int32) (Mt : (Nat → Int32)) (x1 : Int32) (x2 : Int32) (y1 : Int32), fX9_appendPart_J32 N Mm Mh Mn Mt x1 x2 y1 = some (r0, Mh9, Mn9, Mt9) → ∀ (H : Heap) (locs : List Loc), va_P D vwCl (w_14_15 q cI cJ cD Mh Mn Mm Mt) H → va_S (gA q [14, 15]) s.heap H locs → ∀ ls : Array Slot, lv_has ls 4 [(0, .ref (q 14)), (1, .int x1), (2, .int x2)] → W p l e (headSpec wsX9_appendPart rX9_appendPart).room s m ([.ref (q 14), .int p1, .int p2] : List Value).toArray below meth c H locs 0 0 (MQ below (gQ D (some (.int r0)) (w_14_15 q cI cJ cD Mh9 Mn9 Mm Mt9) (gA q [14, 15])) ([.ref (q 14), .int p1, .int p2] : List Value).toArray s 0 0 (gA q [14, 15])) (F0 m 32 ls [.int y1, .ref (q 14)]) := by
    intro Mh Mn Mt x1 x2 y1 hf H locs hP hS ls hl
    unfold fX9_appendPart_J32 at hf
    obtain ⟨⟨r32, Mh32⟩, hc, hf⟩ := bn_some hf
    try dsimp only at hf
    refine g_call0 (ws' := (w_14_15 q cI cJ cD Mh32 Mn Mm Mt)) (st1 := [.int r32]) hq [14, 15] [14] [.inl 0, .inr 1] (va_runV (As := [.int y1]) (rest := []) ⟨hx, hb, hml, hown, hts⟩ (kX9_goesWell l D cI cJ cD q hq N Mh Mn Mm y1 r32 Mh32 hc) (cwV 1 hts gX9_appendPart_X9_goesWell rfl rfl rfl (by decide +kernel) ⟨(Nat.le_of_ble_eq_true rfl), (Nat.le_of_ble_eq_true rfl)⟩) ⟨gP_blind, va_recv hE.1 hP (ci := 7) (q0 := 0) rfl rfl, fun U hU hW => ⟨rfl, by rw [hU]; exact hP.sub (ws' := (w_14 q cI cJ cD Mh Mn Mm)) [0] rfl, gEv.warm hW hE⟩⟩ rfl rfl hl.1 rfl (lv_room (Nat.le_of_ble_eq_true rfl)) dX9_appendPart_32 ⟨Nat.zero_le _, Nat.zero_le _⟩) hP hS (gSub rfl) rfl rfl rfl rfl rfl (fun H locs hP hS => ?_)
    refine lv_if_ne (tgt := 40) hx hb dX9_appendPart_35 (by decide) (fun c_4 => ?_) (fun c_4 => ?_)
    · have hf := (if_neg c_4).symm.trans hf
      refine lv_iload_n hx hb dX9_appendPart_40 rfl (lv_at hl 1 rfl) ?_
      refine lv_istore_n (lv' := [(3, .int x1), (0, .ref (q 14)), (1, .int x1), (2, .int x2)]) hx hb dX9_appendPart_41 rfl hl (by decide) rfl (fun ls hl => ?_)
      exact K42 N Mh32 Mn Mt x2 x1 hf _ _ hP hS _ (lv_sub hl [1, 3, 0] rfl)
    · have hf := (if_pos c_4).symm.trans hf
      refine lv_iconst (v := (0 : Int32)) hx hb dX9_appendPart_38 (by decide) ?_
      cases hf
      exact W.iret hx hb hr (fun t ht hW => ⟨⟨rfl, by rw [ht]; exact hP⟩, hS.F ht⟩) hS.2.2 dX9_appendPart_39
  unfold fX9_appendPart at hf
  refine lv_aload_n hx hb dX9_appendPart_0 rfl (lv_at hl 0 rfl) ?_
  refine lv_aload_n hx hb dX9_appendPart_1 rfl (lv_at hl 0 rfl) ?_
  refine lv_iload_n hx hb dX9_appendPart_2 rfl (lv_at hl 1 rfl) ?_
  refine lv_iload_n hx hb dX9_appendPart_3 rfl (lv_at hl 2 rfl) ?_
  obtain ⟨r4, hc, hf⟩ := bn_some hf
  try dsimp only at hf
  refine g_call0 (ws' := (w_14_15 q cI cJ cD Mh Mn Mm Mt)) (st1 := [.int r4, .ref (q 14)]) hq [14, 15] [14] [.inl 0, .inr 1] (va_runV (As := [.int p1, .int p2]) (rest := [.ref (q 14)]) ⟨hx, hb, hml, hown, hts⟩ (kX9_isPart l D cI cJ cD q hq N Mh Mn Mm p1 p2 r4 hc) (cwV 2 hts gX9_appendPart_X9_isPart rfl rfl rfl (by decide +kernel) ⟨(Nat.le_of_ble_eq_true rfl), (Nat.le_of_ble_eq_true rfl)⟩) ⟨gP_blind, va_recv hE.1 hP (ci := 7) (q0 := 0) rfl rfl, fun U hU hW => ⟨rfl, by rw [hU]; exact hP.sub (ws' := (w_14 q cI cJ cD Mh Mn Mm)) [0] rfl, gEv.warm hW hE⟩⟩ rfl rfl hl.1 rfl (lv_room (Nat.le_of_ble_eq_true rfl)) dX9_appendPart_4 ⟨Nat.zero_le _, Nat.zero_le _⟩) hP hS (gSub rfl) rfl rfl rfl rfl rfl (fun H locs hP hS => ?_)
  refine lv_if_ne (tgt := 14) hx hb dX9_appendPart_7 (by decide) (fun c_5 => ?_) (fun c_5 => ?_)
  · have hf := (if_neg c_5).symm.trans hf
    refine lv_aload_n hx hb dX9_appendPart_14 rfl (lv_at hl 0 rfl) ?_
    refine va_get (D := D) (ci := 7) (v := .int Mn) (C := RX9) (T := TX9) (N := 11) hx hb hts huX9 hown hE.1 hP 0 rfl rfl 1 (by decide) hk39 (fun _ h9 => h9) rfl dX9_appendPart_15 ?_
    refine lv_iload_n hx hb dX9_appendPart_18 rfl (lv_at hl 2 rfl) ?_
    refine lv_iadd hx hb dX9_appendPart_19 ?_
    refine lv_iload_n hx hb dX9_appendPart_20 rfl (lv_at hl 1 rfl) ?_
    refine lv_isub hx hb dX9_appendPart_21 ?_
    refine lv_bipush (v := (64 : Int32)) hx hb dX9_appendPart_22 (by decide) ?_
    refine lv_icmp_le (tgt := 31) hx hb dX9_appendPart_24 (by decide) (fun c_6 => ?_) (fun c_6 => ?_)
    · have hf := (if_pos c_6).symm.trans hf
      refine lv_iconst (v := (0 : Int32)) hx hb dX9_appendPart_31 (by decide) ?_
      exact J32 Mh Mn Mt p1 p2 (0 : Int32) hf _ _ hP hS _ (lv_sub hl [0, 1, 2] rfl)
    · have hf := (if_neg c_6).symm.trans hf
      refine lv_iconst (v := (2 : Int32)) hx hb dX9_appendPart_27 (by decide) ?_
      refine lv_goto (tgt := 32) hx hb dX9_appendPart_28 (by decide) ?_
      exact J32 Mh Mn Mt p1 p2 (2 : Int32) hf _ _ hP hS _ (lv_sub hl [0, 1, 2] rfl)
  · have hf := (if_pos c_5).symm.trans hf
    refine lv_iconst (v := (1 : Int32)) hx hb dX9_appendPart_10 (by decide) ?_
    refine lv_goto (tgt := 32) hx hb dX9_appendPart_11 (by decide) ?_
    exact J32 Mh Mn Mt p1 p2 (1 : Int32) hf _ _ hP hS _ (lv_sub hl [0, 1, 2] rfl)
set_option maxHeartbeats 4000000 in
set_option maxRecDepth 100000 in
theorem kX9_power (l : Launch) (D : va_G) (cI cJ cD : ClassId) (q : Nat → Nat) (hq : gInj q) (N : Nat) (p0 : Int32) (p1 : Int32) (r0 : Int32) (hf : fX9_power N p0 p1 = some r0) : Met l yX9_power wsX9_power rX9_power (gP D cI cJ cD [.int p0, .int p1] (w_0none q cI cJ cD)) (gQ D (some (.int r0)) (w_0none q cI cJ cD) (gA q [])) 0 0 (gA q []) := by
  refine Met.ofW (cc := cX9_power) (maxL := 4) (ret := (some .int)) (by decide +kernel) rfl ?_
  intro p e s m args below meth c s₁ B hml hv
  obtain ⟨rfl, hP, hE⟩ := hv
  have hx := B.exec
  have hb := B.bytes
  have hr := B.returns
  have hts := atoms_spec (ws := wsX9_power) B.pre
  have hown : s.vm.findClass RX9 = some m.cls := findClass_of_methodNamed B.named
  have hlocks := B.notSynchronized
  have hS : va_S (gA q []) s.heap s.heap [] := va_S.rf
  have hl := lv_entry ([.int p0, .int p1]) (n := 4) (Nat.le_of_ble_eq_true rfl)
  rw [lg_entry_eq]
  generalize (lg_sl ([.int p0, .int p1]) ++ List.replicate (4 - (lg_sl ([.int p0, .int p1])).length) Slot.unset).toArray = ls at hl ⊢
  have hl : lv_has ls 4 [(0, .int p0), (1, .int p1)] := hl
  have J19 : ∀ (x2 : Int32), fX9_power_J19 N x2 = some r0 → ∀ (H : Heap) (locs : List Loc), va_P D vwCl (w_0none q cI cJ cD) H → va_S (gA q []) s.heap H locs → ∀ ls : Array Slot, lv_has ls 4 [(2, .int x2)] → W p l e (headSpec wsX9_power rX9_power).room s m ([.int p0, .int p1] : List Value).toArray below meth c H locs 0 0 (MQ below (gQ D (some (.int r0)) (w_0none q cI cJ cD) (gA q [])) ([.int p0, .int p1] : List Value).toArray s 0 0 (gA q [])) (F0 m 19 ls []) := by
    intro x2 hf H locs hP hS ls hl
    unfold fX9_power_J19 at hf
    refine lv_iload_n hx hb dX9_power_19 rfl (lv_at hl 0 rfl) ?_
    cases hf
    exact W.iret hx hb hr (fun t ht hW => ⟨⟨rfl, by rw [ht]; exact hP⟩, hS.F ht⟩) hS.2.2 dX9_power_20
  have K4 : ∀ (n4 : Nat) (x0 : Int32) (x1 : Int32) (x2 : Int32) (x3 : Int32), fX9_power_H4 N n4 x0 x1 x2 x3 = some r0 → ∀ (H : Heap) (locs : List Loc), va_P D vwCl (w_0none q cI cJ cD) H → va_S (gA q []) s.heap H locs → ∀ ls : Array Slot, lv_has ls 4 [(0, .int x0), (1, .int x1), (2, .int x2), (3, .int x3)] → W p l e (headSpec wsX9_power rX9_power).room s m ([.int p0, .int p1] : List Value).toArray below meth c H locs 0 0 (MQ below (gQ D (some (.int r0)) (w_0none q cI cJ cD) (gA q [])) ([.int p0, .int p1] : List Value).toArray s 0 0 (gA q [])) (F0 m 4 ls []) := by
    intro n4
    induction n4 with
    | zero =>
      intro x0 x1 x2 x3 hf
      exact nomatch (show (none : Option Int32) = some r0 from hf)
    | succ n4 ih4 =>
      intro x0 x1 x2 x3 hf H locs hP hS ls hl
      have hf : fX9_power_B4 N (fX9_power_H4 N n4) x0 x1 x2 x3 = some r0 := hf
      unfold fX9_power_B4 at hf
      refine lv_iload_n hx hb dX9_power_4 rfl (lv_at hl 3 rfl) ?_
      refine lv_iload_n hx hb dX9_power_5 rfl (lv_at hl 1 rfl) ?_
      refine lv_icmp_ge (tgt := 19) hx hb dX9_power_6 (by decide) (fun c_1 => ?_) (fun c_1 => ?_)
      · have hf := (if_pos c_1).symm.trans hf
        exact J19 x2 hf _ _ hP hS _ (lv_sub hl [2] rfl)
      · have hf := (if_neg c_1).symm.trans hf
        refine lv_iload_n hx hb dX9_power_9 rfl (lv_at hl 2 rfl) ?_
        refine lv_iload_n hx hb dX9_power_10 rfl (lv_at hl 0 rfl) ?_
        refine lv_imul hx hb dX9_power_11 ?_
        refine lv_istore_n (lv' := [(2, .int (x2 * x0)), (0, .int x0), (1, .int x1), (3, .int x3)]) hx hb dX9_power_12 rfl hl (by decide) rfl (fun ls hl => ?_)
        refine lv_iinc (v := (x3 + 1)) (lv' := [(3, .int (x3 + 1)), (2, .int (x2 * x0)), (0, .int x0), (1, .int x1)]) hx hb dX9_power_13 hl (k := 3) rfl rfl (by decide) rfl (fun ls hl => ?_)
        refine lv_goto (tgt := 4) hx hb dX9_power_16 (by decide) ?_
        exact ih4 x0 x1 (x2 * x0) (x3 + 1) hf _ _ hP hS _ (lv_sub hl [2, 3, 1, 0] rfl)
  unfold fX9_power at hf
  refine lv_iconst (v := (1 : Int32)) hx hb dX9_power_0 (by decide) ?_
  refine lv_istore_n (lv' := [(2, .int (1 : Int32)), (0, .int p0), (1, .int p1)]) hx hb dX9_power_1 rfl hl (by decide) rfl (fun ls hl => ?_)
  refine lv_iconst (v := (0 : Int32)) hx hb dX9_power_2 (by decide) ?_
  refine lv_istore_n (lv' := [(3, .int (0 : Int32)), (2, .int (1 : Int32)), (0, .int p0), (1, .int p1)]) hx hb dX9_power_3 rfl hl (by decide) rfl (fun ls hl => ?_)
  exact K4 N p0 p1 (1 : Int32) (0 : Int32) hf _ _ hP hS _ (lv_sub hl [2, 3, 1, 0] rfl)
set_option maxHeartbeats 4000000 in
set_option maxRecDepth 100000 in
theorem kX9_layWord (l : Launch) (D : va_G) (cI cJ cD : ClassId) (q : Nat → Nat) (hq : gInj q) (N : Nat) (Mh : Int32) (Mn : Int32) (Mm : Int32) (Mw : (Nat → Int32)) (p1 : Int32) (p2 : Int32) (p3 : Int32) (Mw9 : (Nat → Int32)) (hf : fX9_layWord N Mh Mn Mm Mw p1 p2 p3 = some Mw9) : Met l yX9_layWord wsX9_layWord rX9_layWord (gP D cI cJ cD [.ref (q 14), .int p1, .int p2, .int p3] (w_14_20 q cI cJ cD Mh Mn Mm Mw)) (gQ D none (w_14_20 q cI cJ cD Mh Mn Mm Mw9) (gA q [14, 20])) 0 0 (gA q [14, 20]) := by
  refine Met.ofW (cc := cX9_layWord) (maxL := 6) (ret := none) (by decide +kernel) rfl ?_
  intro p e s m args below meth c s₁ B hml hv
  obtain ⟨rfl, hP, hE⟩ := hv
  have hx := B.exec
  have hb := B.bytes
  have hr := B.returns
  have hts := atoms_spec (ws := wsX9_layWord) B.pre
  have hown : s.vm.findClass RX9 = some m.cls := findClass_of_methodNamed B.named
  have hlocks := B.notSynchronized
  have hS : va_S (gA q [14, 20]) s.heap s.heap [] := va_S.rf
  have hl := lv_entry ([.ref (q 14), .int p1, .int p2, .int p3]) (n := 6) (Nat.le_of_ble_eq_true rfl)
  rw [lg_entry_eq]
  generalize (lg_sl ([.ref (q 14), .int p1, .int p2, .int p3]) ++ List.replicate (6 - (lg_sl ([.ref (q 14), .int p1, .int p2, .int p3])).length) Slot.unset).toArray = ls at hl ⊢
  have hl : lv_has ls 6 [(0, .ref (q 14)), (1, .int p1), (2, .int p2), (3, .int p3)] := hl
  have hDm : ∀ (z0 : Int32) (z1 : Int32) (z2 : Int32) (z3 : (Nat → Int32)), va_D (gA q [14, 20]) (w_14_20 q cI cJ cD z0 z1 z2 z3) := fun _ _ _ _ => gD_of hq [14, 20] rfl rfl rfl (fun k h => ⟨k, h, rfl⟩)
  have hk25 := hts (.fieldLink RX9 25 "LyndonTextModel" "word" "[I") (by decide +kernel)
  have huX9 : ∀ w ∈ u_ws RX9 TX9 11, w ∈ wsX9_layWord := by decide +kernel
  have J36 : ∀ (Mw : (Nat → Int32)), fX9_layWord_J36 N Mh Mn Mm Mw = some Mw9 → ∀ (H : Heap) (locs : List Loc), va_P D vwCl (w_14_20 q cI cJ cD Mh Mn Mm Mw) H → va_S (gA q [14, 20]) s.heap H locs → ∀ ls : Array Slot, lv_has ls 6 [] → W p l e (headSpec wsX9_layWord rX9_layWord).room s m ([.ref (q 14), .int p1, .int p2, .int p3] : List Value).toArray below meth c H locs 0 0 (MQ below (gQ D none (w_14_20 q cI cJ cD Mh Mn Mm Mw9) (gA q [14, 20])) ([.ref (q 14), .int p1, .int p2, .int p3] : List Value).toArray s 0 0 (gA q [14, 20])) (F0 m 36 ls []) := by
    intro Mw hf H locs hP hS ls hl
    unfold fX9_layWord_J36 at hf
    cases hf
    exact W.vret hx hb hr (fun t ht hW => ⟨⟨rfl, by rw [ht]; exact hP⟩, hS.F ht⟩) hS.2.2 dX9_layWord_36
  have K8 : ∀ (n8 : Nat) (Mw : (Nat → Int32)) (x2 : Int32) (x4 : Int32) (x5 : Int32), fX9_layWord_H8 N Mh Mn Mm n8 Mw x2 x4 x5 = some Mw9 → ∀ (H : Heap) (locs : List Loc), va_P D vwCl (w_14_20 q cI cJ cD Mh Mn Mm Mw) H → va_S (gA q [14, 20]) s.heap H locs → ∀ ls : Array Slot, lv_has ls 6 [(0, .ref (q 14)), (2, .int x2), (4, .int x4), (5, .int x5)] → W p l e (headSpec wsX9_layWord rX9_layWord).room s m ([.ref (q 14), .int p1, .int p2, .int p3] : List Value).toArray below meth c H locs 0 0 (MQ below (gQ D none (w_14_20 q cI cJ cD Mh Mn Mm Mw9) (gA q [14, 20])) ([.ref (q 14), .int p1, .int p2, .int p3] : List Value).toArray s 0 0 (gA q [14, 20])) (F0 m 8 ls []) := by
    intro n8
    induction n8 with
    | zero =>
      intro Mw x2 x4 x5 hf
      exact nomatch (show (none : Option (Nat → Int32)) = some Mw9 from hf)
    | succ n8 ih8 =>
      intro Mw x2 x4 x5 hf H locs hP hS ls hl
      have hf : fX9_layWord_B8 N Mh Mn Mm (fX9_layWord_H8 N Mh Mn Mm n8) Mw x2 x4 x5 = some Mw9 := hf
      unfold fX9_layWord_B8 at hf
      refine lv_iload hx hb dX9_layWord_8 (lv_at hl 3 rfl) ?_
      refine lv_if_lt (tgt := 36) hx hb dX9_layWord_10 (by decide) (fun c_1 => ?_) (fun c_1 => ?_)
      · have hf := (if_pos c_1).symm.trans hf
        exact J36 Mw hf _ _ hP hS _ (lv_sub hl [] rfl)
      · have hf := (if_neg c_1).symm.trans hf
        refine lv_aload_n hx hb dX9_layWord_13 rfl (lv_at hl 0 rfl) ?_
        refine va_get (D := D) (ci := 7) (v := .ref (q 20)) (C := RX9) (T := TX9) (N := 11) hx hb hts huX9 hown hE.1 hP 0 rfl rfl 8 (by decide) hk25 (fun _ h9 => h9) rfl dX9_layWord_14 ?_
        refine lv_iload hx hb dX9_layWord_17 (lv_at hl 3 rfl) ?_
        refine lv_iload hx hb dX9_layWord_19 (lv_at hl 2 rfl) ?_
        refine lv_iload_n hx hb dX9_layWord_21 rfl (lv_at hl 1 rfl) ?_
        obtain ⟨g_2, hf⟩ := gd_some hf
        refine lv_irem hx hb dX9_layWord_22 (nz_ne g_2) ?_
        obtain ⟨g_3, hf⟩ := gd_some hf
        refine va_iast hx hb hE.1 hP (hDm Mh Mn Mm Mw) hS 1 0 rfl rfl (inb_in g_3) dX9_layWord_23 (fun H locs hP _ hS => ?_)
        have hP : va_P D vwCl (w_14_20 q cI cJ cD Mh Mn Mm (upd Mw (x5).toNatClampNeg (x4 - x4 / x2 * x2))) H := hP
        refine lv_iload hx hb dX9_layWord_24 (lv_at hl 2 rfl) ?_
        refine lv_iload_n hx hb dX9_layWord_26 rfl (lv_at hl 1 rfl) ?_
        obtain ⟨g_4, hf⟩ := gd_some hf
        refine lv_idiv hx hb dX9_layWord_27 (nz_ne g_4) ?_
        refine lv_istore (lv' := [(4, .int (x4 / x2)), (0, .ref (q 14)), (2, .int x2), (5, .int x5)]) hx hb dX9_layWord_28 hl (by decide) rfl (fun ls hl => ?_)
        refine lv_iinc (v := (x5 + (-1 : Int32))) (lv' := [(5, .int (x5 + (-1 : Int32))), (4, .int (x4 / x2)), (0, .ref (q 14)), (2, .int x2)]) hx hb dX9_layWord_30 hl (k := 3) rfl rfl (by decide) rfl (fun ls hl => ?_)
        refine lv_goto (tgt := 8) hx hb dX9_layWord_33 (by decide) ?_
        exact ih8 (upd Mw (x5).toNatClampNeg (x4 - x4 / x2 * x2)) x2 (x4 / x2) (x5 + (-1 : Int32)) hf _ _ hP hS _ (lv_sub hl [2, 3, 1, 0] rfl)
  unfold fX9_layWord at hf
  refine lv_iload_n hx hb dX9_layWord_0 rfl (lv_at hl 1 rfl) ?_
  refine lv_istore (lv' := [(4, .int p1), (0, .ref (q 14)), (1, .int p1), (2, .int p2), (3, .int p3)]) hx hb dX9_layWord_1 hl (by decide) rfl (fun ls hl => ?_)
  refine lv_iload_n hx hb dX9_layWord_3 rfl (lv_at hl 4 rfl) ?_
  refine lv_iconst (v := (1 : Int32)) hx hb dX9_layWord_4 (by decide) ?_
  refine lv_isub hx hb dX9_layWord_5 ?_
  refine lv_istore (lv' := [(5, .int (p3 - (1 : Int32))), (4, .int p1), (0, .ref (q 14)), (1, .int p1), (2, .int p2), (3, .int p3)]) hx hb dX9_layWord_6 hl (by decide) rfl (fun ls hl => ?_)
  exact K8 N Mw p2 p1 (p3 - (1 : Int32)) hf _ _ hP hS _ (lv_sub hl [2, 4, 1, 0] rfl)
set_option maxHeartbeats 4000000 in
set_option maxRecDepth 100000 in
theorem kX9_isLyndonWord (l : Launch) (D : va_G) (cI cJ cD : ClassId) (q : Nat → Nat) (hq : gInj q) (N : Nat) (Mh : Int32) (Mn : Int32) (Mm : Int32) (Mw : (Nat → Int32)) (p1 : Int32) (r0 : Int32) (hf : fX9_isLyndonWord N Mh Mn Mm Mw p1 = some r0) : Met l yX9_isLyndonWord wsX9_isLyndonWord rX9_isLyndonWord (gP D cI cJ cD [.ref (q 14), .int p1] (w_14_20 q cI cJ cD Mh Mn Mm Mw)) (gQ D (some (.int r0)) (w_14_20 q cI cJ cD Mh Mn Mm Mw) (gA q [14, 20])) 0 0 (gA q [14, 20]) := by
  refine Met.ofW (cc := cX9_isLyndonWord) (maxL := 5) (ret := (some .boolean)) (by decide +kernel) rfl ?_
  intro p e s m args below meth c s₁ B hml hv
  obtain ⟨rfl, hP, hE⟩ := hv
  have hx := B.exec
  have hb := B.bytes
  have hr := B.returns
  have hts := atoms_spec (ws := wsX9_isLyndonWord) B.pre
  have hown : s.vm.findClass RX9 = some m.cls := findClass_of_methodNamed B.named
  have hlocks := B.notSynchronized
  have hS : va_S (gA q [14, 20]) s.heap s.heap [] := va_S.rf
  have hl := lv_entry ([.ref (q 14), .int p1]) (n := 5) (Nat.le_of_ble_eq_true rfl)
  rw [lg_entry_eq]
  generalize (lg_sl ([.ref (q 14), .int p1]) ++ List.replicate (5 - (lg_sl ([.ref (q 14), .int p1])).length) Slot.unset).toArray = ls at hl ⊢
  have hl : lv_has ls 5 [(0, .ref (q 14)), (1, .int p1)] := hl
  have hk25 := hts (.fieldLink RX9 25 "LyndonTextModel" "word" "[I") (by decide +kernel)
  have huX9 : ∀ w ∈ u_ws RX9 TX9 11, w ∈ wsX9_isLyndonWord := by decide +kernel
  have J88 : ∀ (x2 : Int32), fX9_isLyndonWord_J88 N Mh Mn Mm Mw x2 = some r0 → ∀ (H : Heap) (locs : List Loc), va_P D vwCl (w_14_20 q cI cJ cD Mh Mn Mm Mw) H → va_S (gA q [14, 20]) s.heap H locs → ∀ ls : Array Slot, lv_has ls 5 [(2, .int x2)] → W p l e (headSpec wsX9_isLyndonWord rX9_isLyndonWord).room s m ([.ref (q 14), .int p1] : List Value).toArray below meth c H locs 0 0 (MQ below (gQ D (some (.int r0)) (w_14_20 q cI cJ cD Mh Mn Mm Mw) (gA q [14, 20])) ([.ref (q 14), .int p1] : List Value).toArray s 0 0 (gA q [14, 20])) (F0 m 88 ls []) := by
    intro x2 hf H locs hP hS ls hl
    unfold fX9_isLyndonWord_J88 at hf
    refine lv_iload_n hx hb dX9_isLyndonWord_88 rfl (lv_at hl 0 rfl) ?_
    obtain ⟨g_1, hf⟩ := gd_some hf
    cases hf
    exact W.zret (ty := .boolean) hx hb hr (isB_nar g_1) (fun t ht hW => ⟨⟨rfl, by rw [ht]; exact hP⟩, hS.F ht⟩) hS.2.2 dX9_isLyndonWord_89
  have K4 : ∀ (n4 : Nat) (x1 : Int32) (x2 : Int32) (x3 : Int32), fX9_isLyndonWord_H4 N Mh Mn Mm Mw n4 x1 x2 x3 = some r0 → ∀ (H : Heap) (locs : List Loc), va_P D vwCl (w_14_20 q cI cJ cD Mh Mn Mm Mw) H → va_S (gA q [14, 20]) s.heap H locs → ∀ ls : Array Slot, lv_has ls 5 [(0, .ref (q 14)), (1, .int x1), (2, .int x2), (3, .int x3)] → W p l e (headSpec wsX9_isLyndonWord rX9_isLyndonWord).room s m ([.ref (q 14), .int p1] : List Value).toArray below meth c H locs 0 0 (MQ below (gQ D (some (.int r0)) (w_14_20 q cI cJ cD Mh Mn Mm Mw) (gA q [14, 20])) ([.ref (q 14), .int p1] : List Value).toArray s 0 0 (gA q [14, 20])) (F0 m 4 ls []) := by
    intro n4
    induction n4 with
    | zero =>
      intro x1 x2 x3 hf
      exact nomatch (show (none : Option Int32) = some r0 from hf)
    | succ n4 ih4 =>
      have J81 : ∀ (x1 : Int32) (x3 : Int32) (y0 : Int32), fX9_isLyndonWord_J81 N Mh Mn Mm Mw (fX9_isLyndonWord_H4 N Mh Mn Mm Mw n4) x1 x3 y0 = some r0 → ∀ (H : Heap) (locs : List Loc), va_P D vwCl (w_14_20 q cI cJ cD Mh Mn Mm Mw) H → va_S (gA q [14, 20]) s.heap H locs → ∀ ls : Array Slot, lv_has ls 5 [(0, .ref (q 14)), (1, .int x1), (3, .int x3)] → W p l e (headSpec wsX9_isLyndonWord rX9_isLyndonWord).room s m ([.ref (q 14), .int p1] : List Value).toArray below meth c H locs 0 0 (MQ below (gQ D (some (.int r0)) (w_14_20 q cI cJ cD Mh Mn Mm Mw) (gA q [14, 20])) ([.ref (q 14), .int p1] : List Value).toArray s 0 0 (gA q [14, 20])) (F0 m 81 ls [.int y0]) := by
        intro x1 x3 y0 hf H locs hP hS ls hl
        unfold fX9_isLyndonWord_J81 at hf
        refine lv_istore_n (lv' := [(2, .int y0), (0, .ref (q 14)), (1, .int x1), (3, .int x3)]) hx hb dX9_isLyndonWord_81 rfl hl (by decide) rfl (fun ls hl => ?_)
        refine lv_iinc (v := (x3 + 1)) (lv' := [(3, .int (x3 + 1)), (2, .int y0), (0, .ref (q 14)), (1, .int x1)]) hx hb dX9_isLyndonWord_82 hl (k := 3) rfl rfl (by decide) rfl (fun ls hl => ?_)
        refine lv_goto (tgt := 4) hx hb dX9_isLyndonWord_85 (by decide) ?_
        exact ih4 x1 y0 (x3 + 1) hf _ _ hP hS _ (lv_sub hl [2, 3, 1, 0] rfl)
      have J80 : ∀ (x1 : Int32) (x3 : Int32), fX9_isLyndonWord_J80 N Mh Mn Mm Mw (fX9_isLyndonWord_H4 N Mh Mn Mm Mw n4) x1 x3 = some r0 → ∀ (H : Heap) (locs : List Loc), va_P D vwCl (w_14_20 q cI cJ cD Mh Mn Mm Mw) H → va_S (gA q [14, 20]) s.heap H locs → ∀ ls : Array Slot, lv_has ls 5 [(0, .ref (q 14)), (1, .int x1), (3, .int x3)] → W p l e (headSpec wsX9_isLyndonWord rX9_isLyndonWord).room s m ([.ref (q 14), .int p1] : List Value).toArray below meth c H locs 0 0 (MQ below (gQ D (some (.int r0)) (w_14_20 q cI cJ cD Mh Mn Mm Mw) (gA q [14, 20])) ([.ref (q 14), .int p1] : List Value).toArray s 0 0 (gA q [14, 20])) (F0 m 80 ls []) := by
        intro x1 x3 hf H locs hP hS ls hl
        unfold fX9_isLyndonWord_J80 at hf
        refine lv_iconst (v := (0 : Int32)) hx hb dX9_isLyndonWord_80 (by decide) ?_
        exact J81 x1 x3 (0 : Int32) hf _ _ hP hS _ (lv_sub hl [0, 1, 2] rfl)
      have J45 : ∀ (x1 : Int32) (x2 : Int32) (x3 : Int32) (x4 : Int32), fX9_isLyndonWord_J45 N Mh Mn Mm Mw (fX9_isLyndonWord_H4 N Mh Mn Mm Mw n4) x1 x2 x3 x4 = some r0 → ∀ (H : Heap) (locs : List Loc), va_P D vwCl (w_14_20 q cI cJ cD Mh Mn Mm Mw) H → va_S (gA q [14, 20]) s.heap H locs → ∀ ls : Array Slot, lv_has ls 5 [(0, .ref (q 14)), (1, .int x1), (2, .int x2), (3, .int x3), (4, .int x4)] → W p l e (headSpec wsX9_isLyndonWord rX9_isLyndonWord).room s m ([.ref (q 14), .int p1] : List Value).toArray below meth c H locs 0 0 (MQ below (gQ D (some (.int r0)) (w_14_20 q cI cJ cD Mh Mn Mm Mw) (gA q [14, 20])) ([.ref (q 14), .int p1] : List Value).toArray s 0 0 (gA q [14, 20])) (F0 m 45 ls []) := by
        intro x1 x2 x3 x4 hf H locs hP hS ls hl
        unfold fX9_isLyndonWord_J45 at hf
        refine lv_iload_n hx hb dX9_isLyndonWord_45 rfl (lv_at hl 2 rfl) ?_
        refine lv_if_eq (tgt := 80) hx hb dX9_isLyndonWord_46 (by decide) (fun c_2 => ?_) (fun c_2 => ?_)
        · have hf := (if_pos c_2).symm.trans hf
          exact J80 x1 x3 hf _ _ hP hS _ (lv_sub hl [0, 1, 3] rfl)
        · have hf := (if_neg c_2).symm.trans hf
          refine lv_iload_n hx hb dX9_isLyndonWord_49 rfl (lv_at hl 3 rfl) ?_
          refine lv_iload hx hb dX9_isLyndonWord_50 (lv_at hl 4 rfl) ?_
          refine lv_iadd hx hb dX9_isLyndonWord_52 ?_
          refine lv_iload_n hx hb dX9_isLyndonWord_53 rfl (lv_at hl 1 rfl) ?_
          refine lv_icmp_ge (tgt := 80) hx hb dX9_isLyndonWord_54 (by decide) (fun c_3 => ?_) (fun c_3 => ?_)
          · have hf := (if_pos c_3).symm.trans hf
            exact J80 x1 x3 hf _ _ hP hS _ (lv_sub hl [0, 1, 3] rfl)
          · have hf := (if_neg c_3).symm.trans hf
            refine lv_aload_n hx hb dX9_isLyndonWord_57 rfl (lv_at hl 0 rfl) ?_
            refine va_get (D := D) (ci := 7) (v := .ref (q 20)) (C := RX9) (T := TX9) (N := 11) hx hb hts huX9 hown hE.1 hP 0 rfl rfl 8 (by decide) hk25 (fun _ h9 => h9) rfl dX9_isLyndonWord_58 ?_
            refine lv_iload hx hb dX9_isLyndonWord_61 (lv_at hl 4 rfl) ?_
            obtain ⟨g_4, hf⟩ := gd_some hf
            refine va_iald hx hb hE.1 hP 1 0 rfl rfl (inb_in g_4) dX9_isLyndonWord_63 ?_
            refine lv_aload_n hx hb dX9_isLyndonWord_64 rfl (lv_at hl 0 rfl) ?_
            refine va_get (D := D) (ci := 7) (v := .ref (q 20)) (C := RX9) (T := TX9) (N := 11) hx hb hts huX9 hown hE.1 hP 0 rfl rfl 8 (by decide) hk25 (fun _ h9 => h9) rfl dX9_isLyndonWord_65 ?_
            refine lv_iload_n hx hb dX9_isLyndonWord_68 rfl (lv_at hl 3 rfl) ?_
            refine lv_iload hx hb dX9_isLyndonWord_69 (lv_at hl 4 rfl) ?_
            refine lv_iadd hx hb dX9_isLyndonWord_71 ?_
            obtain ⟨g_5, hf⟩ := gd_some hf
            refine va_iald hx hb hE.1 hP 1 0 rfl rfl (inb_in g_5) dX9_isLyndonWord_72 ?_
            refine lv_icmp_ge (tgt := 80) hx hb dX9_isLyndonWord_73 (by decide) (fun c_6 => ?_) (fun c_6 => ?_)
            · have hf := (if_pos c_6).symm.trans hf
              exact J80 x1 x3 hf _ _ hP hS _ (lv_sub hl [0, 1, 3] rfl)
            · have hf := (if_neg c_6).symm.trans hf
              refine lv_iconst (v := (1 : Int32)) hx hb dX9_isLyndonWord_76 (by decide) ?_
              refine lv_goto (tgt := 81) hx hb dX9_isLyndonWord_77 (by decide) ?_
              exact J81 x1 x3 (1 : Int32) hf _ _ hP hS _ (lv_sub hl [0, 1, 3] rfl)
      have K12 : ∀ (n12 : Nat) (x1 : Int32) (x2 : Int32) (x3 : Int32) (x4 : Int32), fX9_isLyndonWord_H12 N Mh Mn Mm Mw (fX9_isLyndonWord_H4 N Mh Mn Mm Mw n4) n12 x1 x2 x3 x4 = some r0 → ∀ (H : Heap) (locs : List Loc), va_P D vwCl (w_14_20 q cI cJ cD Mh Mn Mm Mw) H → va_S (gA q [14, 20]) s.heap H locs → ∀ ls : Array Slot, lv_has ls 5 [(0, .ref (q 14)), (1, .int x1), (2, .int x2), (3, .int x3), (4, .int x4)] → W p l e (headSpec wsX9_isLyndonWord rX9_isLyndonWord).room s m ([.ref (q 14), .int p1] : List Value).toArray below meth c H locs 0 0 (MQ below (gQ D (some (.int r0)) (w_14_20 q cI cJ cD Mh Mn Mm Mw) (gA q [14, 20])) ([.ref (q 14), .int p1] : List Value).toArray s 0 0 (gA q [14, 20])) (F0 m 12 ls []) := by
        intro n12
        induction n12 with
        | zero =>
          intro x1 x2 x3 x4 hf
          exact nomatch (show (none : Option Int32) = some r0 from hf)
        | succ n12 ih12 =>
          intro x1 x2 x3 x4 hf H locs hP hS ls hl
          have hf : fX9_isLyndonWord_B12 N Mh Mn Mm Mw (fX9_isLyndonWord_H4 N Mh Mn Mm Mw n4) (fX9_isLyndonWord_H12 N Mh Mn Mm Mw (fX9_isLyndonWord_H4 N Mh Mn Mm Mw n4) n12) x1 x2 x3 x4 = some r0 := hf
          unfold fX9_isLyndonWord_B12 at hf
          refine lv_iload_n hx hb dX9_isLyndonWord_12 rfl (lv_at hl 3 rfl) ?_
          refine lv_iload hx hb dX9_isLyndonWord_13 (lv_at hl 4 rfl) ?_
          refine lv_iadd hx hb dX9_isLyndonWord_15 ?_
          refine lv_iload_n hx hb dX9_isLyndonWord_16 rfl (lv_at hl 1 rfl) ?_
          refine lv_icmp_ge (tgt := 45) hx hb dX9_isLyndonWord_17 (by decide) (fun c_7 => ?_) (fun c_7 => ?_)
          · have hf := (if_pos c_7).symm.trans hf
            exact J45 x1 x2 x3 x4 hf _ _ hP hS _ (lv_sub hl [0, 1, 2, 3, 4] rfl)
          · have hf := (if_neg c_7).symm.trans hf
            refine lv_aload_n hx hb dX9_isLyndonWord_20 rfl (lv_at hl 0 rfl) ?_
            refine va_get (D := D) (ci := 7) (v := .ref (q 20)) (C := RX9) (T := TX9) (N := 11) hx hb hts huX9 hown hE.1 hP 0 rfl rfl 8 (by decide) hk25 (fun _ h9 => h9) rfl dX9_isLyndonWord_21 ?_
            refine lv_iload hx hb dX9_isLyndonWord_24 (lv_at hl 4 rfl) ?_
            obtain ⟨g_8, hf⟩ := gd_some hf
            refine va_iald hx hb hE.1 hP 1 0 rfl rfl (inb_in g_8) dX9_isLyndonWord_26 ?_
            refine lv_aload_n hx hb dX9_isLyndonWord_27 rfl (lv_at hl 0 rfl) ?_
            refine va_get (D := D) (ci := 7) (v := .ref (q 20)) (C := RX9) (T := TX9) (N := 11) hx hb hts huX9 hown hE.1 hP 0 rfl rfl 8 (by decide) hk25 (fun _ h9 => h9) rfl dX9_isLyndonWord_28 ?_
            refine lv_iload_n hx hb dX9_isLyndonWord_31 rfl (lv_at hl 3 rfl) ?_
            refine lv_iload hx hb dX9_isLyndonWord_32 (lv_at hl 4 rfl) ?_
            refine lv_iadd hx hb dX9_isLyndonWord_34 ?_
            obtain ⟨g_9, hf⟩ := gd_some hf
            refine va_iald hx hb hE.1 hP 1 0 rfl rfl (inb_in g_9) dX9_isLyndonWord_35 ?_
            refine lv_icmp_ne (tgt := 45) hx hb dX9_isLyndonWord_36 (by decide) (fun c_10 => ?_) (fun c_10 => ?_)
            · have hf := (if_neg c_10).symm.trans hf
              exact J45 x1 x2 x3 x4 hf _ _ hP hS _ (lv_sub hl [0, 1, 2, 3, 4] rfl)
            · have hf := (if_pos c_10).symm.trans hf
              refine lv_iinc (v := (x4 + 1)) (lv' := [(4, .int (x4 + 1)), (0, .ref (q 14)), (1, .int x1), (2, .int x2), (3, .int x3)]) hx hb dX9_isLyndonWord_39 hl (k := 4) rfl rfl (by decide) rfl (fun ls hl => ?_)
              refine lv_goto (tgt := 12) hx hb dX9_isLyndonWord_42 (by decide) ?_
              exact ih12 x1 x2 x3 (x4 + 1) hf _ _ hP hS _ (lv_sub hl [1, 2, 3, 4, 0] rfl)
      intro x1 x2 x3 hf H locs hP hS ls hl
      have hf : fX9_isLyndonWord_B4 N Mh Mn Mm Mw (fX9_isLyndonWord_H4 N Mh Mn Mm Mw n4) x1 x2 x3 = some r0 := hf
      unfold fX9_isLyndonWord_B4 at hf
      refine lv_iload_n hx hb dX9_isLyndonWord_4 rfl (lv_at hl 3 rfl) ?_
      refine lv_iload_n hx hb dX9_isLyndonWord_5 rfl (lv_at hl 1 rfl) ?_
      refine lv_icmp_ge (tgt := 88) hx hb dX9_isLyndonWord_6 (by decide) (fun c_11 => ?_) (fun c_11 => ?_)
      · have hf := (if_pos c_11).symm.trans hf
        exact J88 x2 hf _ _ hP hS _ (lv_sub hl [2] rfl)
      · have hf := (if_neg c_11).symm.trans hf
        refine lv_iconst (v := (0 : Int32)) hx hb dX9_isLyndonWord_9 (by decide) ?_
        refine lv_istore (lv' := [(4, .int (0 : Int32)), (0, .ref (q 14)), (1, .int x1), (2, .int x2), (3, .int x3)]) hx hb dX9_isLyndonWord_10 hl (by decide) rfl (fun ls hl => ?_)
        exact K12 N x1 x2 x3 (0 : Int32) hf _ _ hP hS _ (lv_sub hl [1, 2, 3, 4, 0] rfl)
  unfold fX9_isLyndonWord at hf
  refine lv_iconst (v := (1 : Int32)) hx hb dX9_isLyndonWord_0 (by decide) ?_
  refine lv_istore_n (lv' := [(2, .int (1 : Int32)), (0, .ref (q 14)), (1, .int p1)]) hx hb dX9_isLyndonWord_1 rfl hl (by decide) rfl (fun ls hl => ?_)
  refine lv_iconst (v := (1 : Int32)) hx hb dX9_isLyndonWord_2 (by decide) ?_
  refine lv_istore_n (lv' := [(3, .int (1 : Int32)), (2, .int (1 : Int32)), (0, .ref (q 14)), (1, .int p1)]) hx hb dX9_isLyndonWord_3 rfl hl (by decide) rfl (fun ls hl => ?_)
  exact K4 N p1 (1 : Int32) (1 : Int32) hf _ _ hP hS _ (lv_sub hl [2, 3, 1, 0] rfl)
set_option maxHeartbeats 4000000 in
set_option maxRecDepth 100000 in
theorem kX9_isNecklaceWord (l : Launch) (D : va_G) (cI cJ cD : ClassId) (q : Nat → Nat) (hq : gInj q) (N : Nat) (Mh : Int32) (Mn : Int32) (Mm : Int32) (Mw : (Nat → Int32)) (p1 : Int32) (r0 : Int32) (hf : fX9_isNecklaceWord N Mh Mn Mm Mw p1 = some r0) : Met l yX9_isNecklaceWord wsX9_isNecklaceWord rX9_isNecklaceWord (gP D cI cJ cD [.ref (q 14), .int p1] (w_14_20 q cI cJ cD Mh Mn Mm Mw)) (gQ D (some (.int r0)) (w_14_20 q cI cJ cD Mh Mn Mm Mw) (gA q [14, 20])) 0 0 (gA q [14, 20]) := by
  refine Met.ofW (cc := cX9_isNecklaceWord) (maxL := 5) (ret := (some .boolean)) (by decide +kernel) rfl ?_
  intro p e s m args below meth c s₁ B hml hv
  obtain ⟨rfl, hP, hE⟩ := hv
  have hx := B.exec
  have hb := B.bytes
  have hr := B.returns
  have hts := atoms_spec (ws := wsX9_isNecklaceWord) B.pre
  have hown : s.vm.findClass RX9 = some m.cls := findClass_of_methodNamed B.named
  have hlocks := B.notSynchronized
  have hS : va_S (gA q [14, 20]) s.heap s.heap [] := va_S.rf
  have hl := lv_entry ([.ref (q 14), .int p1]) (n := 5) (Nat.le_of_ble_eq_true rfl)
  rw [lg_entry_eq]
  generalize (lg_sl ([.ref (q 14), .int p1]) ++ List.replicate (5 - (lg_sl ([.ref (q 14), .int p1])).length) Slot.unset).toArray = ls at hl ⊢
  have hl : lv_has ls 5 [(0, .ref (q 14)), (1, .int p1)] := hl
  have hk25 := hts (.fieldLink RX9 25 "LyndonTextModel" "word" "[I") (by decide +kernel)
  have huX9 : ∀ w ∈ u_ws RX9 TX9 11, w ∈ wsX9_isNecklaceWord := by decide +kernel
  have J88 : ∀ (x2 : Int32), fX9_isNecklaceWord_J88 N Mh Mn Mm Mw x2 = some r0 → ∀ (H : Heap) (locs : List Loc), va_P D vwCl (w_14_20 q cI cJ cD Mh Mn Mm Mw) H → va_S (gA q [14, 20]) s.heap H locs → ∀ ls : Array Slot, lv_has ls 5 [(2, .int x2)] → W p l e (headSpec wsX9_isNecklaceWord rX9_isNecklaceWord).room s m ([.ref (q 14), .int p1] : List Value).toArray below meth c H locs 0 0 (MQ below (gQ D (some (.int r0)) (w_14_20 q cI cJ cD Mh Mn Mm Mw) (gA q [14, 20])) ([.ref (q 14), .int p1] : List Value).toArray s 0 0 (gA q [14, 20])) (F0 m 88 ls []) := by
    intro x2 hf H locs hP hS ls hl
    unfold fX9_isNecklaceWord_J88 at hf
    refine lv_iload_n hx hb dX9_isNecklaceWord_88 rfl (lv_at hl 0 rfl) ?_
    obtain ⟨g_1, hf⟩ := gd_some hf
    cases hf
    exact W.zret (ty := .boolean) hx hb hr (isB_nar g_1) (fun t ht hW => ⟨⟨rfl, by rw [ht]; exact hP⟩, hS.F ht⟩) hS.2.2 dX9_isNecklaceWord_89
  have K4 : ∀ (n4 : Nat) (x1 : Int32) (x2 : Int32) (x3 : Int32), fX9_isNecklaceWord_H4 N Mh Mn Mm Mw n4 x1 x2 x3 = some r0 → ∀ (H : Heap) (locs : List Loc), va_P D vwCl (w_14_20 q cI cJ cD Mh Mn Mm Mw) H → va_S (gA q [14, 20]) s.heap H locs → ∀ ls : Array Slot, lv_has ls 5 [(0, .ref (q 14)), (1, .int x1), (2, .int x2), (3, .int x3)] → W p l e (headSpec wsX9_isNecklaceWord rX9_isNecklaceWord).room s m ([.ref (q 14), .int p1] : List Value).toArray below meth c H locs 0 0 (MQ below (gQ D (some (.int r0)) (w_14_20 q cI cJ cD Mh Mn Mm Mw) (gA q [14, 20])) ([.ref (q 14), .int p1] : List Value).toArray s 0 0 (gA q [14, 20])) (F0 m 4 ls []) := by
    intro n4
    induction n4 with
    | zero =>
      intro x1 x2 x3 hf
      exact nomatch (show (none : Option Int32) = some r0 from hf)
    | succ n4 ih4 =>
      have J81 : ∀ (x1 : Int32) (x3 : Int32) (y0 : Int32), fX9_isNecklaceWord_J81 N Mh Mn Mm Mw (fX9_isNecklaceWord_H4 N Mh Mn Mm Mw n4) x1 x3 y0 = some r0 → ∀ (H : Heap) (locs : List Loc), va_P D vwCl (w_14_20 q cI cJ cD Mh Mn Mm Mw) H → va_S (gA q [14, 20]) s.heap H locs → ∀ ls : Array Slot, lv_has ls 5 [(0, .ref (q 14)), (1, .int x1), (3, .int x3)] → W p l e (headSpec wsX9_isNecklaceWord rX9_isNecklaceWord).room s m ([.ref (q 14), .int p1] : List Value).toArray below meth c H locs 0 0 (MQ below (gQ D (some (.int r0)) (w_14_20 q cI cJ cD Mh Mn Mm Mw) (gA q [14, 20])) ([.ref (q 14), .int p1] : List Value).toArray s 0 0 (gA q [14, 20])) (F0 m 81 ls [.int y0]) := by
        intro x1 x3 y0 hf H locs hP hS ls hl
        unfold fX9_isNecklaceWord_J81 at hf
        refine lv_istore_n (lv' := [(2, .int y0), (0, .ref (q 14)), (1, .int x1), (3, .int x3)]) hx hb dX9_isNecklaceWord_81 rfl hl (by decide) rfl (fun ls hl => ?_)
        refine lv_iinc (v := (x3 + 1)) (lv' := [(3, .int (x3 + 1)), (2, .int y0), (0, .ref (q 14)), (1, .int x1)]) hx hb dX9_isNecklaceWord_82 hl (k := 3) rfl rfl (by decide) rfl (fun ls hl => ?_)
        refine lv_goto (tgt := 4) hx hb dX9_isNecklaceWord_85 (by decide) ?_
        exact ih4 x1 y0 (x3 + 1) hf _ _ hP hS _ (lv_sub hl [2, 3, 1, 0] rfl)
      have J80 : ∀ (x1 : Int32) (x3 : Int32), fX9_isNecklaceWord_J80 N Mh Mn Mm Mw (fX9_isNecklaceWord_H4 N Mh Mn Mm Mw n4) x1 x3 = some r0 → ∀ (H : Heap) (locs : List Loc), va_P D vwCl (w_14_20 q cI cJ cD Mh Mn Mm Mw) H → va_S (gA q [14, 20]) s.heap H locs → ∀ ls : Array Slot, lv_has ls 5 [(0, .ref (q 14)), (1, .int x1), (3, .int x3)] → W p l e (headSpec wsX9_isNecklaceWord rX9_isNecklaceWord).room s m ([.ref (q 14), .int p1] : List Value).toArray below meth c H locs 0 0 (MQ below (gQ D (some (.int r0)) (w_14_20 q cI cJ cD Mh Mn Mm Mw) (gA q [14, 20])) ([.ref (q 14), .int p1] : List Value).toArray s 0 0 (gA q [14, 20])) (F0 m 80 ls []) := by
        intro x1 x3 hf H locs hP hS ls hl
        unfold fX9_isNecklaceWord_J80 at hf
        refine lv_iconst (v := (0 : Int32)) hx hb dX9_isNecklaceWord_80 (by decide) ?_
        exact J81 x1 x3 (0 : Int32) hf _ _ hP hS _ (lv_sub hl [0, 1, 2] rfl)
      have J76 : ∀ (x1 : Int32) (x3 : Int32), fX9_isNecklaceWord_J76 N Mh Mn Mm Mw (fX9_isNecklaceWord_H4 N Mh Mn Mm Mw n4) x1 x3 = some r0 → ∀ (H : Heap) (locs : List Loc), va_P D vwCl (w_14_20 q cI cJ cD Mh Mn Mm Mw) H → va_S (gA q [14, 20]) s.heap H locs → ∀ ls : Array Slot, lv_has ls 5 [(0, .ref (q 14)), (1, .int x1), (3, .int x3)] → W p l e (headSpec wsX9_isNecklaceWord rX9_isNecklaceWord).room s m ([.ref (q 14), .int p1] : List Value).toArray below meth c H locs 0 0 (MQ below (gQ D (some (.int r0)) (w_14_20 q cI cJ cD Mh Mn Mm Mw) (gA q [14, 20])) ([.ref (q 14), .int p1] : List Value).toArray s 0 0 (gA q [14, 20])) (F0 m 76 ls []) := by
        intro x1 x3 hf H locs hP hS ls hl
        unfold fX9_isNecklaceWord_J76 at hf
        refine lv_iconst (v := (1 : Int32)) hx hb dX9_isNecklaceWord_76 (by decide) ?_
        refine lv_goto (tgt := 81) hx hb dX9_isNecklaceWord_77 (by decide) ?_
        exact J81 x1 x3 (1 : Int32) hf _ _ hP hS _ (lv_sub hl [0, 1, 2] rfl)
      have J45 : ∀ (x1 : Int32) (x2 : Int32) (x3 : Int32) (x4 : Int32), fX9_isNecklaceWord_J45 N Mh Mn Mm Mw (fX9_isNecklaceWord_H4 N Mh Mn Mm Mw n4) x1 x2 x3 x4 = some r0 → ∀ (H : Heap) (locs : List Loc), va_P D vwCl (w_14_20 q cI cJ cD Mh Mn Mm Mw) H → va_S (gA q [14, 20]) s.heap H locs → ∀ ls : Array Slot, lv_has ls 5 [(0, .ref (q 14)), (1, .int x1), (2, .int x2), (3, .int x3), (4, .int x4)] → W p l e (headSpec wsX9_isNecklaceWord rX9_isNecklaceWord).room s m ([.ref (q 14), .int p1] : List Value).toArray below meth c H locs 0 0 (MQ below (gQ D (some (.int r0)) (w_14_20 q cI cJ cD Mh Mn Mm Mw) (gA q [14, 20])) ([.ref (q 14), .int p1] : List Value).toArray s 0 0 (gA q [14, 20])) (F0 m 45 ls []) := by
        intro x1 x2 x3 x4 hf H locs hP hS ls hl
        unfold fX9_isNecklaceWord_J45 at hf
        refine lv_iload_n hx hb dX9_isNecklaceWord_45 rfl (lv_at hl 2 rfl) ?_
        refine lv_if_eq (tgt := 80) hx hb dX9_isNecklaceWord_46 (by decide) (fun c_2 => ?_) (fun c_2 => ?_)
        · have hf := (if_pos c_2).symm.trans hf
          exact J80 x1 x3 hf _ _ hP hS _ (lv_sub hl [0, 1, 3] rfl)
        · have hf := (if_neg c_2).symm.trans hf
          refine lv_iload hx hb dX9_isNecklaceWord_49 (lv_at hl 4 rfl) ?_
          refine lv_iload_n hx hb dX9_isNecklaceWord_51 rfl (lv_at hl 1 rfl) ?_
          refine lv_icmp_eq (tgt := 76) hx hb dX9_isNecklaceWord_52 (by decide) (fun c_3 => ?_) (fun c_3 => ?_)
          · have hf := (if_pos c_3).symm.trans hf
            exact J76 x1 x3 hf _ _ hP hS _ (lv_sub hl [0, 1, 3] rfl)
          · have hf := (if_neg c_3).symm.trans hf
            refine lv_aload_n hx hb dX9_isNecklaceWord_55 rfl (lv_at hl 0 rfl) ?_
            refine va_get (D := D) (ci := 7) (v := .ref (q 20)) (C := RX9) (T := TX9) (N := 11) hx hb hts huX9 hown hE.1 hP 0 rfl rfl 8 (by decide) hk25 (fun _ h9 => h9) rfl dX9_isNecklaceWord_56 ?_
            refine lv_iload hx hb dX9_isNecklaceWord_59 (lv_at hl 4 rfl) ?_
            obtain ⟨g_4, hf⟩ := gd_some hf
            refine va_iald hx hb hE.1 hP 1 0 rfl rfl (inb_in g_4) dX9_isNecklaceWord_61 ?_
            refine lv_aload_n hx hb dX9_isNecklaceWord_62 rfl (lv_at hl 0 rfl) ?_
            refine va_get (D := D) (ci := 7) (v := .ref (q 20)) (C := RX9) (T := TX9) (N := 11) hx hb hts huX9 hown hE.1 hP 0 rfl rfl 8 (by decide) hk25 (fun _ h9 => h9) rfl dX9_isNecklaceWord_63 ?_
            refine lv_iload hx hb dX9_isNecklaceWord_66 (lv_at hl 4 rfl) ?_
            refine lv_iload_n hx hb dX9_isNecklaceWord_68 rfl (lv_at hl 3 rfl) ?_
            refine lv_iadd hx hb dX9_isNecklaceWord_69 ?_
            refine lv_iload_n hx hb dX9_isNecklaceWord_70 rfl (lv_at hl 1 rfl) ?_
            obtain ⟨g_5, hf⟩ := gd_some hf
            refine lv_irem hx hb dX9_isNecklaceWord_71 (nz_ne g_5) ?_
            obtain ⟨g_6, hf⟩ := gd_some hf
            refine va_iald hx hb hE.1 hP 1 0 rfl rfl (inb_in g_6) dX9_isNecklaceWord_72 ?_
            refine lv_icmp_ge (tgt := 80) hx hb dX9_isNecklaceWord_73 (by decide) (fun c_7 => ?_) (fun c_7 => ?_)
            · have hf := (if_pos c_7).symm.trans hf
              exact J80 x1 x3 hf _ _ hP hS _ (lv_sub hl [0, 1, 3] rfl)
            · have hf := (if_neg c_7).symm.trans hf
              exact J76 x1 x3 hf _ _ hP hS _ (lv_sub hl [0, 1, 3] rfl)
      have K12 : ∀ (n12 : Nat) (x1 : Int32) (x2 : Int32) (x3 : Int32) (x4 : Int32), fX9_isNecklaceWord_H12 N Mh Mn Mm Mw (fX9_isNecklaceWord_H4 N Mh Mn Mm Mw n4) n12 x1 x2 x3 x4 = some r0 → ∀ (H : Heap) (locs : List Loc), va_P D vwCl (w_14_20 q cI cJ cD Mh Mn Mm Mw) H → va_S (gA q [14, 20]) s.heap H locs → ∀ ls : Array Slot, lv_has ls 5 [(0, .ref (q 14)), (1, .int x1), (2, .int x2), (3, .int x3), (4, .int x4)] → W p l e (headSpec wsX9_isNecklaceWord rX9_isNecklaceWord).room s m ([.ref (q 14), .int p1] : List Value).toArray below meth c H locs 0 0 (MQ below (gQ D (some (.int r0)) (w_14_20 q cI cJ cD Mh Mn Mm Mw) (gA q [14, 20])) ([.ref (q 14), .int p1] : List Value).toArray s 0 0 (gA q [14, 20])) (F0 m 12 ls []) := by
        intro n12
        induction n12 with
        | zero =>
          intro x1 x2 x3 x4 hf
          exact nomatch (show (none : Option Int32) = some r0 from hf)
        | succ n12 ih12 =>
          intro x1 x2 x3 x4 hf H locs hP hS ls hl
          have hf : fX9_isNecklaceWord_B12 N Mh Mn Mm Mw (fX9_isNecklaceWord_H4 N Mh Mn Mm Mw n4) (fX9_isNecklaceWord_H12 N Mh Mn Mm Mw (fX9_isNecklaceWord_H4 N Mh Mn Mm Mw n4) n12) x1 x2 x3 x4 = some r0 := hf
          unfold fX9_isNecklaceWord_B12 at hf
          refine lv_iload hx hb dX9_isNecklaceWord_12 (lv_at hl 4 rfl) ?_
          refine lv_iload_n hx hb dX9_isNecklaceWord_14 rfl (lv_at hl 1 rfl) ?_
          refine lv_icmp_ge (tgt := 45) hx hb dX9_isNecklaceWord_15 (by decide) (fun c_8 => ?_) (fun c_8 => ?_)
          · have hf := (if_pos c_8).symm.trans hf
            exact J45 x1 x2 x3 x4 hf _ _ hP hS _ (lv_sub hl [0, 1, 2, 3, 4] rfl)
          · have hf := (if_neg c_8).symm.trans hf
            refine lv_aload_n hx hb dX9_isNecklaceWord_18 rfl (lv_at hl 0 rfl) ?_
            refine va_get (D := D) (ci := 7) (v := .ref (q 20)) (C := RX9) (T := TX9) (N := 11) hx hb hts huX9 hown hE.1 hP 0 rfl rfl 8 (by decide) hk25 (fun _ h9 => h9) rfl dX9_isNecklaceWord_19 ?_
            refine lv_iload hx hb dX9_isNecklaceWord_22 (lv_at hl 4 rfl) ?_
            obtain ⟨g_9, hf⟩ := gd_some hf
            refine va_iald hx hb hE.1 hP 1 0 rfl rfl (inb_in g_9) dX9_isNecklaceWord_24 ?_
            refine lv_aload_n hx hb dX9_isNecklaceWord_25 rfl (lv_at hl 0 rfl) ?_
            refine va_get (D := D) (ci := 7) (v := .ref (q 20)) (C := RX9) (T := TX9) (N := 11) hx hb hts huX9 hown hE.1 hP 0 rfl rfl 8 (by decide) hk25 (fun _ h9 => h9) rfl dX9_isNecklaceWord_26 ?_
            refine lv_iload hx hb dX9_isNecklaceWord_29 (lv_at hl 4 rfl) ?_
            refine lv_iload_n hx hb dX9_isNecklaceWord_31 rfl (lv_at hl 3 rfl) ?_
            refine lv_iadd hx hb dX9_isNecklaceWord_32 ?_
            refine lv_iload_n hx hb dX9_isNecklaceWord_33 rfl (lv_at hl 1 rfl) ?_
            obtain ⟨g_10, hf⟩ := gd_some hf
            refine lv_irem hx hb dX9_isNecklaceWord_34 (nz_ne g_10) ?_
            obtain ⟨g_11, hf⟩ := gd_some hf
            refine va_iald hx hb hE.1 hP 1 0 rfl rfl (inb_in g_11) dX9_isNecklaceWord_35 ?_
            refine lv_icmp_ne (tgt := 45) hx hb dX9_isNecklaceWord_36 (by decide) (fun c_12 => ?_) (fun c_12 => ?_)
            · have hf := (if_neg c_12).symm.trans hf
              exact J45 x1 x2 x3 x4 hf _ _ hP hS _ (lv_sub hl [0, 1, 2, 3, 4] rfl)
            · have hf := (if_pos c_12).symm.trans hf
              refine lv_iinc (v := (x4 + 1)) (lv' := [(4, .int (x4 + 1)), (0, .ref (q 14)), (1, .int x1), (2, .int x2), (3, .int x3)]) hx hb dX9_isNecklaceWord_39 hl (k := 4) rfl rfl (by decide) rfl (fun ls hl => ?_)
              refine lv_goto (tgt := 12) hx hb dX9_isNecklaceWord_42 (by decide) ?_
              exact ih12 x1 x2 x3 (x4 + 1) hf _ _ hP hS _ (lv_sub hl [1, 2, 3, 4, 0] rfl)
      intro x1 x2 x3 hf H locs hP hS ls hl
      have hf : fX9_isNecklaceWord_B4 N Mh Mn Mm Mw (fX9_isNecklaceWord_H4 N Mh Mn Mm Mw n4) x1 x2 x3 = some r0 := hf
      unfold fX9_isNecklaceWord_B4 at hf
      refine lv_iload_n hx hb dX9_isNecklaceWord_4 rfl (lv_at hl 3 rfl) ?_
      refine lv_iload_n hx hb dX9_isNecklaceWord_5 rfl (lv_at hl 1 rfl) ?_
      refine lv_icmp_ge (tgt := 88) hx hb dX9_isNecklaceWord_6 (by decide) (fun c_13 => ?_) (fun c_13 => ?_)
      · have hf := (if_pos c_13).symm.trans hf
        exact J88 x2 hf _ _ hP hS _ (lv_sub hl [2] rfl)
      · have hf := (if_neg c_13).symm.trans hf
        refine lv_iconst (v := (0 : Int32)) hx hb dX9_isNecklaceWord_9 (by decide) ?_
        refine lv_istore (lv' := [(4, .int (0 : Int32)), (0, .ref (q 14)), (1, .int x1), (2, .int x2), (3, .int x3)]) hx hb dX9_isNecklaceWord_10 hl (by decide) rfl (fun ls hl => ?_)
        exact K12 N x1 x2 x3 (0 : Int32) hf _ _ hP hS _ (lv_sub hl [1, 2, 3, 4, 0] rfl)
  unfold fX9_isNecklaceWord at hf
  refine lv_iconst (v := (1 : Int32)) hx hb dX9_isNecklaceWord_0 (by decide) ?_
  refine lv_istore_n (lv' := [(2, .int (1 : Int32)), (0, .ref (q 14)), (1, .int p1)]) hx hb dX9_isNecklaceWord_1 rfl hl (by decide) rfl (fun ls hl => ?_)
  refine lv_iconst (v := (1 : Int32)) hx hb dX9_isNecklaceWord_2 (by decide) ?_
  refine lv_istore_n (lv' := [(3, .int (1 : Int32)), (2, .int (1 : Int32)), (0, .ref (q 14)), (1, .int p1)]) hx hb dX9_isNecklaceWord_3 rfl hl (by decide) rfl (fun ls hl => ?_)
  exact K4 N p1 (1 : Int32) (1 : Int32) hf _ _ hP hS _ (lv_sub hl [2, 3, 1, 0] rfl)
set_option maxHeartbeats 4000000 in
set_option maxRecDepth 100000 in
theorem kX9_compareWords (l : Launch) (D : va_G) (cI cJ cD : ClassId) (q : Nat → Nat) (hq : gInj q) (N : Nat) (Mh : Int32) (Mn : Int32) (Mm : Int32) (Mw : (Nat → Int32)) (Ml : (Nat → Int32)) (p1 : Int32) (p2 : Int32) (r0 : Int32) (hf : fX9_compareWords N Mh Mn Mm Mw Ml p1 p2 = some r0) : Met l yX9_compareWords wsX9_compareWords rX9_compareWords (gP D cI cJ cD [.ref (q 14), .int p1, .int p2] (w_14_20_21 q cI cJ cD Mh Mn Mm Mw Ml)) (gQ D (some (.int r0)) (w_14_20_21 q cI cJ cD Mh Mn Mm Mw Ml) (gA q [14, 20, 21])) 0 0 (gA q [14, 20, 21]) := by
  refine Met.ofW (cc := cX9_compareWords) (maxL := 4) (ret := (some .int)) (by decide +kernel) rfl ?_
  intro p e s m args below meth c s₁ B hml hv
  obtain ⟨rfl, hP, hE⟩ := hv
  have hx := B.exec
  have hb := B.bytes
  have hr := B.returns
  have hts := atoms_spec (ws := wsX9_compareWords) B.pre
  have hown : s.vm.findClass RX9 = some m.cls := findClass_of_methodNamed B.named
  have hlocks := B.notSynchronized
  have hS : va_S (gA q [14, 20, 21]) s.heap s.heap [] := va_S.rf
  have hl := lv_entry ([.ref (q 14), .int p1, .int p2]) (n := 4) (Nat.le_of_ble_eq_true rfl)
  rw [lg_entry_eq]
  generalize (lg_sl ([.ref (q 14), .int p1, .int p2]) ++ List.replicate (4 - (lg_sl ([.ref (q 14), .int p1, .int p2])).length) Slot.unset).toArray = ls at hl ⊢
  have hl : lv_has ls 4 [(0, .ref (q 14)), (1, .int p1), (2, .int p2)] := hl
  have hk25 := hts (.fieldLink RX9 25 "LyndonTextModel" "word" "[I") (by decide +kernel)
  have hk28 := hts (.fieldLink RX9 28 "LyndonTextModel" "latest" "[I") (by decide +kernel)
  have huX9 : ∀ w ∈ u_ws RX9 TX9 11, w ∈ wsX9_compareWords := by decide +kernel
  have J62 : ∀ (y0 : Int32), fX9_compareWords_J62 N Mh Mn Mm Mw Ml y0 = some r0 → ∀ (H : Heap) (locs : List Loc), va_P D vwCl (w_14_20_21 q cI cJ cD Mh Mn Mm Mw Ml) H → va_S (gA q [14, 20, 21]) s.heap H locs → ∀ ls : Array Slot, lv_has ls 4 [] → W p l e (headSpec wsX9_compareWords rX9_compareWords).room s m ([.ref (q 14), .int p1, .int p2] : List Value).toArray below meth c H locs 0 0 (MQ below (gQ D (some (.int r0)) (w_14_20_21 q cI cJ cD Mh Mn Mm Mw Ml) (gA q [14, 20, 21])) ([.ref (q 14), .int p1, .int p2] : List Value).toArray s 0 0 (gA q [14, 20, 21])) (F0 m 62 ls [.int y0]) := by
    intro y0 hf H locs hP hS ls hl
    unfold fX9_compareWords_J62 at hf
    cases hf
    exact W.iret hx hb hr (fun t ht hW => ⟨⟨rfl, by rw [ht]; exact hP⟩, hS.F ht⟩) hS.2.2 dX9_compareWords_62
  have J59 : ∀ (x1 : Int32) (x2 : Int32), fX9_compareWords_J59 N Mh Mn Mm Mw Ml x1 x2 = some r0 → ∀ (H : Heap) (locs : List Loc), va_P D vwCl (w_14_20_21 q cI cJ cD Mh Mn Mm Mw Ml) H → va_S (gA q [14, 20, 21]) s.heap H locs → ∀ ls : Array Slot, lv_has ls 4 [(1, .int x1), (2, .int x2)] → W p l e (headSpec wsX9_compareWords rX9_compareWords).room s m ([.ref (q 14), .int p1, .int p2] : List Value).toArray below meth c H locs 0 0 (MQ below (gQ D (some (.int r0)) (w_14_20_21 q cI cJ cD Mh Mn Mm Mw Ml) (gA q [14, 20, 21])) ([.ref (q 14), .int p1, .int p2] : List Value).toArray s 0 0 (gA q [14, 20, 21])) (F0 m 59 ls []) := by
    intro x1 x2 hf H locs hP hS ls hl
    unfold fX9_compareWords_J59 at hf
    refine lv_iload_n hx hb dX9_compareWords_59 rfl (lv_at hl 0 rfl) ?_
    refine lv_iload_n hx hb dX9_compareWords_60 rfl (lv_at hl 1 rfl) ?_
    refine lv_isub hx hb dX9_compareWords_61 ?_
    exact J62 (x1 - x2) hf _ _ hP hS _ (lv_sub hl [] rfl)
  have J33 : ∀ (x1 : Int32) (x2 : Int32) (x3 : Int32), fX9_compareWords_J33 N Mh Mn Mm Mw Ml x1 x2 x3 = some r0 → ∀ (H : Heap) (locs : List Loc), va_P D vwCl (w_14_20_21 q cI cJ cD Mh Mn Mm Mw Ml) H → va_S (gA q [14, 20, 21]) s.heap H locs → ∀ ls : Array Slot, lv_has ls 4 [(0, .ref (q 14)), (1, .int x1), (2, .int x2), (3, .int x3)] → W p l e (headSpec wsX9_compareWords rX9_compareWords).room s m ([.ref (q 14), .int p1, .int p2] : List Value).toArray below meth c H locs 0 0 (MQ below (gQ D (some (.int r0)) (w_14_20_21 q cI cJ cD Mh Mn Mm Mw Ml) (gA q [14, 20, 21])) ([.ref (q 14), .int p1, .int p2] : List Value).toArray s 0 0 (gA q [14, 20, 21])) (F0 m 33 ls []) := by
    intro x1 x2 x3 hf H locs hP hS ls hl
    unfold fX9_compareWords_J33 at hf
    refine lv_iload_n hx hb dX9_compareWords_33 rfl (lv_at hl 3 rfl) ?_
    refine lv_iload_n hx hb dX9_compareWords_34 rfl (lv_at hl 1 rfl) ?_
    refine lv_icmp_ge (tgt := 59) hx hb dX9_compareWords_35 (by decide) (fun c_1 => ?_) (fun c_1 => ?_)
    · have hf := (if_pos c_1).symm.trans hf
      exact J59 x1 x2 hf _ _ hP hS _ (lv_sub hl [1, 2] rfl)
    · have hf := (if_neg c_1).symm.trans hf
      refine lv_iload_n hx hb dX9_compareWords_38 rfl (lv_at hl 3 rfl) ?_
      refine lv_iload_n hx hb dX9_compareWords_39 rfl (lv_at hl 2 rfl) ?_
      refine lv_icmp_ge (tgt := 59) hx hb dX9_compareWords_40 (by decide) (fun c_2 => ?_) (fun c_2 => ?_)
      · have hf := (if_pos c_2).symm.trans hf
        exact J59 x1 x2 hf _ _ hP hS _ (lv_sub hl [1, 2] rfl)
      · have hf := (if_neg c_2).symm.trans hf
        refine lv_aload_n hx hb dX9_compareWords_43 rfl (lv_at hl 0 rfl) ?_
        refine va_get (D := D) (ci := 7) (v := .ref (q 20)) (C := RX9) (T := TX9) (N := 11) hx hb hts huX9 hown hE.1 hP 0 rfl rfl 8 (by decide) hk25 (fun _ h9 => h9) rfl dX9_compareWords_44 ?_
        refine lv_iload_n hx hb dX9_compareWords_47 rfl (lv_at hl 3 rfl) ?_
        obtain ⟨g_3, hf⟩ := gd_some hf
        refine va_iald hx hb hE.1 hP 1 0 rfl rfl (inb_in g_3) dX9_compareWords_48 ?_
        refine lv_aload_n hx hb dX9_compareWords_49 rfl (lv_at hl 0 rfl) ?_
        refine va_get (D := D) (ci := 7) (v := .ref (q 21)) (C := RX9) (T := TX9) (N := 11) hx hb hts huX9 hown hE.1 hP 0 rfl rfl 9 (by decide) hk28 (fun _ h9 => h9) rfl dX9_compareWords_50 ?_
        refine lv_iload_n hx hb dX9_compareWords_53 rfl (lv_at hl 3 rfl) ?_
        obtain ⟨g_4, hf⟩ := gd_some hf
        refine va_iald hx hb hE.1 hP 2 0 rfl rfl (inb_in g_4) dX9_compareWords_54 ?_
        refine lv_isub hx hb dX9_compareWords_55 ?_
        refine lv_goto (tgt := 62) hx hb dX9_compareWords_56 (by decide) ?_
        exact J62 ((Mw (x3).toNatClampNeg) - (Ml (x3).toNatClampNeg)) hf _ _ hP hS _ (lv_sub hl [] rfl)
  have K2 : ∀ (n2 : Nat) (x1 : Int32) (x2 : Int32) (x3 : Int32), fX9_compareWords_H2 N Mh Mn Mm Mw Ml n2 x1 x2 x3 = some r0 → ∀ (H : Heap) (locs : List Loc), va_P D vwCl (w_14_20_21 q cI cJ cD Mh Mn Mm Mw Ml) H → va_S (gA q [14, 20, 21]) s.heap H locs → ∀ ls : Array Slot, lv_has ls 4 [(0, .ref (q 14)), (1, .int x1), (2, .int x2), (3, .int x3)] → W p l e (headSpec wsX9_compareWords rX9_compareWords).room s m ([.ref (q 14), .int p1, .int p2] : List Value).toArray below meth c H locs 0 0 (MQ below (gQ D (some (.int r0)) (w_14_20_21 q cI cJ cD Mh Mn Mm Mw Ml) (gA q [14, 20, 21])) ([.ref (q 14), .int p1, .int p2] : List Value).toArray s 0 0 (gA q [14, 20, 21])) (F0 m 2 ls []) := by
    intro n2
    induction n2 with
    | zero =>
      intro x1 x2 x3 hf
      exact nomatch (show (none : Option Int32) = some r0 from hf)
    | succ n2 ih2 =>
      intro x1 x2 x3 hf H locs hP hS ls hl
      have hf : fX9_compareWords_B2 N Mh Mn Mm Mw Ml (fX9_compareWords_H2 N Mh Mn Mm Mw Ml n2) x1 x2 x3 = some r0 := hf
      unfold fX9_compareWords_B2 at hf
      refine lv_iload_n hx hb dX9_compareWords_2 rfl (lv_at hl 3 rfl) ?_
      refine lv_iload_n hx hb dX9_compareWords_3 rfl (lv_at hl 1 rfl) ?_
      refine lv_icmp_ge (tgt := 33) hx hb dX9_compareWords_4 (by decide) (fun c_5 => ?_) (fun c_5 => ?_)
      · have hf := (if_pos c_5).symm.trans hf
        exact J33 x1 x2 x3 hf _ _ hP hS _ (lv_sub hl [0, 1, 2, 3] rfl)
      · have hf := (if_neg c_5).symm.trans hf
        refine lv_iload_n hx hb dX9_compareWords_7 rfl (lv_at hl 3 rfl) ?_
        refine lv_iload_n hx hb dX9_compareWords_8 rfl (lv_at hl 2 rfl) ?_
        refine lv_icmp_ge (tgt := 33) hx hb dX9_compareWords_9 (by decide) (fun c_6 => ?_) (fun c_6 => ?_)
        · have hf := (if_pos c_6).symm.trans hf
          exact J33 x1 x2 x3 hf _ _ hP hS _ (lv_sub hl [0, 1, 2, 3] rfl)
        · have hf := (if_neg c_6).symm.trans hf
          refine lv_aload_n hx hb dX9_compareWords_12 rfl (lv_at hl 0 rfl) ?_
          refine va_get (D := D) (ci := 7) (v := .ref (q 20)) (C := RX9) (T := TX9) (N := 11) hx hb hts huX9 hown hE.1 hP 0 rfl rfl 8 (by decide) hk25 (fun _ h9 => h9) rfl dX9_compareWords_13 ?_
          refine lv_iload_n hx hb dX9_compareWords_16 rfl (lv_at hl 3 rfl) ?_
          obtain ⟨g_7, hf⟩ := gd_some hf
          refine va_iald hx hb hE.1 hP 1 0 rfl rfl (inb_in g_7) dX9_compareWords_17 ?_
          refine lv_aload_n hx hb dX9_compareWords_18 rfl (lv_at hl 0 rfl) ?_
          refine va_get (D := D) (ci := 7) (v := .ref (q 21)) (C := RX9) (T := TX9) (N := 11) hx hb hts huX9 hown hE.1 hP 0 rfl rfl 9 (by decide) hk28 (fun _ h9 => h9) rfl dX9_compareWords_19 ?_
          refine lv_iload_n hx hb dX9_compareWords_22 rfl (lv_at hl 3 rfl) ?_
          obtain ⟨g_8, hf⟩ := gd_some hf
          refine va_iald hx hb hE.1 hP 2 0 rfl rfl (inb_in g_8) dX9_compareWords_23 ?_
          refine lv_icmp_ne (tgt := 33) hx hb dX9_compareWords_24 (by decide) (fun c_9 => ?_) (fun c_9 => ?_)
          · have hf := (if_neg c_9).symm.trans hf
            exact J33 x1 x2 x3 hf _ _ hP hS _ (lv_sub hl [0, 1, 2, 3] rfl)
          · have hf := (if_pos c_9).symm.trans hf
            refine lv_iinc (v := (x3 + 1)) (lv' := [(3, .int (x3 + 1)), (0, .ref (q 14)), (1, .int x1), (2, .int x2)]) hx hb dX9_compareWords_27 hl (k := 3) rfl rfl (by decide) rfl (fun ls hl => ?_)
            refine lv_goto (tgt := 2) hx hb dX9_compareWords_30 (by decide) ?_
            exact ih2 x1 x2 (x3 + 1) hf _ _ hP hS _ (lv_sub hl [1, 2, 3, 0] rfl)
  unfold fX9_compareWords at hf
  refine lv_iconst (v := (0 : Int32)) hx hb dX9_compareWords_0 (by decide) ?_
  refine lv_istore_n (lv' := [(3, .int (0 : Int32)), (0, .ref (q 14)), (1, .int p1), (2, .int p2)]) hx hb dX9_compareWords_1 rfl hl (by decide) rfl (fun ls hl => ?_)
  exact K2 N p1 p2 (0 : Int32) hf _ _ hP hS _ (lv_sub hl [1, 2, 3, 0] rfl)
set_option maxHeartbeats 4000000 in
set_option maxRecDepth 100000 in
theorem kX9_isBelow (l : Launch) (D : va_G) (cI cJ cD : ClassId) (q : Nat → Nat) (hq : gInj q) (N : Nat) (p0 : Int32) (p1 : Int32) (p2 : Int32) (p3 : Int32) (p4 : Int32) (r0 : Int32) (hf : fX9_isBelow N p0 p1 p2 p3 p4 = some r0) : Met l yX9_isBelow wsX9_isBelow rX9_isBelow (gP D cI cJ cD [.int p0, .int p1, .int p2, .int p3, .int p4] (w_0none q cI cJ cD)) (gQ D (some (.int r0)) (w_0none q cI cJ cD) (gA q [])) 0 0 (gA q []) := by
  refine Met.ofW (cc := cX9_isBelow) (maxL := 8) (ret := (some .boolean)) (by decide +kernel) rfl ?_
  intro p e s m args below meth c s₁ B hml hv
  obtain ⟨rfl, hP, hE⟩ := hv
  have hx := B.exec
  have hb := B.bytes
  have hr := B.returns
  have hts := atoms_spec (ws := wsX9_isBelow) B.pre
  have hown : s.vm.findClass RX9 = some m.cls := findClass_of_methodNamed B.named
  have hlocks := B.notSynchronized
  have hS : va_S (gA q []) s.heap s.heap [] := va_S.rf
  have hl := lv_entry ([.int p0, .int p1, .int p2, .int p3, .int p4]) (n := 8) (Nat.le_of_ble_eq_true rfl)
  rw [lg_entry_eq]
  generalize (lg_sl ([.int p0, .int p1, .int p2, .int p3, .int p4]) ++ List.replicate (8 - (lg_sl ([.int p0, .int p1, .int p2, .int p3, .int p4])).length) Slot.unset).toArray = ls at hl ⊢
  have hl : lv_has ls 8 [(0, .int p0), (1, .int p1), (2, .int p2), (3, .int p3), (4, .int p4)] := hl
  have J62 : ∀ (y0 : Int32), fX9_isBelow_J62 N y0 = some r0 → ∀ (H : Heap) (locs : List Loc), va_P D vwCl (w_0none q cI cJ cD) H → va_S (gA q []) s.heap H locs → ∀ ls : Array Slot, lv_has ls 8 [] → W p l e (headSpec wsX9_isBelow rX9_isBelow).room s m ([.int p0, .int p1, .int p2, .int p3, .int p4] : List Value).toArray below meth c H locs 0 0 (MQ below (gQ D (some (.int r0)) (w_0none q cI cJ cD) (gA q [])) ([.int p0, .int p1, .int p2, .int p3, .int p4] : List Value).toArray s 0 0 (gA q [])) (F0 m 62 ls [.int y0]) := by
    intro y0 hf H locs hP hS ls hl
    unfold fX9_isBelow_J62 at hf
    obtain ⟨g_1, hf⟩ := gd_some hf
    cases hf
    exact W.zret (ty := .boolean) hx hb hr (isB_nar g_1) (fun t ht hW => ⟨⟨rfl, by rw [ht]; exact hP⟩, hS.F ht⟩) hS.2.2 dX9_isBelow_62
  have J57 : ∀ (_ : Unit), fX9_isBelow_J57 N = some r0 → ∀ (H : Heap) (locs : List Loc), va_P D vwCl (w_0none q cI cJ cD) H → va_S (gA q []) s.heap H locs → ∀ ls : Array Slot, lv_has ls 8 [] → W p l e (headSpec wsX9_isBelow rX9_isBelow).room s m ([.int p0, .int p1, .int p2, .int p3, .int p4] : List Value).toArray below meth c H locs 0 0 (MQ below (gQ D (some (.int r0)) (w_0none q cI cJ cD) (gA q [])) ([.int p0, .int p1, .int p2, .int p3, .int p4] : List Value).toArray s 0 0 (gA q [])) (F0 m 57 ls []) := by
    intro _ hf H locs hP hS ls hl
    unfold fX9_isBelow_J57 at hf
    refine lv_iconst (v := (1 : Int32)) hx hb dX9_isBelow_57 (by decide) ?_
    refine lv_goto (tgt := 62) hx hb dX9_isBelow_58 (by decide) ?_
    exact J62 (1 : Int32) hf _ _ hP hS _ (lv_sub hl [] rfl)
  have J61 : ∀ (_ : Unit), fX9_isBelow_J61 N = some r0 → ∀ (H : Heap) (locs : List Loc), va_P D vwCl (w_0none q cI cJ cD) H → va_S (gA q []) s.heap H locs → ∀ ls : Array Slot, lv_has ls 8 [] → W p l e (headSpec wsX9_isBelow rX9_isBelow).room s m ([.int p0, .int p1, .int p2, .int p3, .int p4] : List Value).toArray below meth c H locs 0 0 (MQ below (gQ D (some (.int r0)) (w_0none q cI cJ cD) (gA q [])) ([.int p0, .int p1, .int p2, .int p3, .int p4] : List Value).toArray s 0 0 (gA q [])) (F0 m 61 ls []) := by
    intro _ hf H locs hP hS ls hl
    unfold fX9_isBelow_J61 at hf
    refine lv_iconst (v := (0 : Int32)) hx hb dX9_isBelow_61 (by decide) ?_
    exact J62 (0 : Int32) hf _ _ hP hS _ (lv_sub hl [] rfl)
  have J10 : ∀ (x0 : Int32) (x1 : Int32) (x2 : Int32) (x3 : Int32) (x4 : Int32) (y0 : Int32), fX9_isBelow_J10 N x0 x1 x2 x3 x4 y0 = some r0 → ∀ (H : Heap) (locs : List Loc), va_P D vwCl (w_0none q cI cJ cD) H → va_S (gA q []) s.heap H locs → ∀ ls : Array Slot, lv_has ls 8 [(0, .int x0), (1, .int x1), (2, .int x2), (3, .int x3), (4, .int x4)] → W p l e (headSpec wsX9_isBelow rX9_isBelow).room s m ([.int p0, .int p1, .int p2, .int p3, .int p4] : List Value).toArray below meth c H locs 0 0 (MQ below (gQ D (some (.int r0)) (w_0none q cI cJ cD) (gA q [])) ([.int p0, .int p1, .int p2, .int p3, .int p4] : List Value).toArray s 0 0 (gA q [])) (F0 m 10 ls [.int y0]) := by
    intro x0 x1 x2 x3 x4 y0 hf H locs hP hS ls hl
    unfold fX9_isBelow_J10 at hf
    refine lv_istore (lv' := [(5, .int y0), (0, .int x0), (1, .int x1), (2, .int x2), (3, .int x3), (4, .int x4)]) hx hb dX9_isBelow_10 hl (by decide) rfl (fun ls hl => ?_)
    refine lv_iload_n hx hb dX9_isBelow_12 rfl (lv_at hl 1 rfl) ?_
    refine lv_iload hx hb dX9_isBelow_13 (lv_at hl 5 rfl) ?_
    refine lv_iload_n hx hb dX9_isBelow_15 rfl (lv_at hl 2 rfl) ?_
    refine lv_iload hx hb dX9_isBelow_16 (lv_at hl 0 rfl) ?_
    refine lv_isub hx hb dX9_isBelow_18 ?_
    obtain ⟨r19, hc, hf⟩ := bn_some hf
    try dsimp only at hf
    refine g_call0 (ws' := (w_0none q cI cJ cD)) (st1 := [.int r19, .int x0]) hq [] [] [] (va_runS (As := [.int x4, .int (x1 - y0)]) (rest := [.int x0]) ⟨hx, hb, hml, hown, hts⟩ (kX9_power l D cI cJ cD q hq N x4 (x1 - y0) r19 hc) (va_cwS 2 hts gX9_isBelow_X9_power rfl rfl rfl (by decide +kernel) ⟨(Nat.le_of_ble_eq_true rfl), (Nat.le_of_ble_eq_true rfl)⟩) ⟨gP_blind, fun U hU hW => ⟨rfl, by rw [hU]; exact hP.sub (ws' := (w_0none q cI cJ cD)) [] rfl, gEv.warm hW hE⟩⟩ rfl rfl hl.1 rfl (lv_room (Nat.le_of_ble_eq_true rfl)) dX9_isBelow_19 ⟨Nat.zero_le _, Nat.zero_le _⟩) hP hS (gSub rfl) rfl rfl rfl rfl rfl (fun H locs hP hS => ?_)
    obtain ⟨g_2, hf⟩ := gd_some hf
    refine lv_idiv hx hb dX9_isBelow_22 (nz_ne g_2) ?_
    refine lv_istore (lv' := [(6, .int (x0 / r19)), (5, .int y0), (0, .int x0), (1, .int x1), (2, .int x2), (3, .int x3), (4, .int x4)]) hx hb dX9_isBelow_23 hl (by decide) rfl (fun ls hl => ?_)
    refine lv_iload_n hx hb dX9_isBelow_25 rfl (lv_at hl 4 rfl) ?_
    refine lv_iload hx hb dX9_isBelow_26 (lv_at hl 6 rfl) ?_
    refine lv_iload_n hx hb dX9_isBelow_28 rfl (lv_at hl 5 rfl) ?_
    refine lv_iload hx hb dX9_isBelow_29 (lv_at hl 1 rfl) ?_
    refine lv_isub hx hb dX9_isBelow_31 ?_
    obtain ⟨r32, hc, hf⟩ := bn_some hf
    try dsimp only at hf
    refine g_call0 (ws' := (w_0none q cI cJ cD)) (st1 := [.int r32, .int x2]) hq [] [] [] (va_runS (As := [.int x4, .int (x3 - y0)]) (rest := [.int x2]) ⟨hx, hb, hml, hown, hts⟩ (kX9_power l D cI cJ cD q hq N x4 (x3 - y0) r32 hc) (va_cwS 2 hts gX9_isBelow_X9_power rfl rfl rfl (by decide +kernel) ⟨(Nat.le_of_ble_eq_true rfl), (Nat.le_of_ble_eq_true rfl)⟩) ⟨gP_blind, fun U hU hW => ⟨rfl, by rw [hU]; exact hP.sub (ws' := (w_0none q cI cJ cD)) [] rfl, gEv.warm hW hE⟩⟩ rfl rfl hl.1 rfl (lv_room (Nat.le_of_ble_eq_true rfl)) dX9_isBelow_32 ⟨Nat.zero_le _, Nat.zero_le _⟩) hP hS (gSub rfl) rfl rfl rfl rfl rfl (fun H locs hP hS => ?_)
    obtain ⟨g_3, hf⟩ := gd_some hf
    refine lv_idiv hx hb dX9_isBelow_35 (nz_ne g_3) ?_
    refine lv_istore (lv' := [(7, .int (x2 / r32)), (6, .int (x0 / r19)), (5, .int y0), (0, .int x0), (1, .int x1), (2, .int x2), (3, .int x3), (4, .int x4)]) hx hb dX9_isBelow_36 hl (by decide) rfl (fun ls hl => ?_)
    refine lv_iload hx hb dX9_isBelow_38 (lv_at hl 1 rfl) ?_
    refine lv_iload hx hb dX9_isBelow_40 (lv_at hl 0 rfl) ?_
    refine lv_icmp_lt (tgt := 57) hx hb dX9_isBelow_42 (by decide) (fun c_4 => ?_) (fun c_4 => ?_)
    · have hf := (if_pos c_4).symm.trans hf
      exact J57 () hf _ _ hP hS _ (lv_sub hl [] rfl)
    · have hf := (if_neg c_4).symm.trans hf
      refine lv_iload hx hb dX9_isBelow_45 (lv_at hl 1 rfl) ?_
      refine lv_iload hx hb dX9_isBelow_47 (lv_at hl 0 rfl) ?_
      refine lv_icmp_ne (tgt := 61) hx hb dX9_isBelow_49 (by decide) (fun c_5 => ?_) (fun c_5 => ?_)
      · have hf := (if_neg c_5).symm.trans hf
        exact J61 () hf _ _ hP hS _ (lv_sub hl [] rfl)
      · have hf := (if_pos c_5).symm.trans hf
        refine lv_iload_n hx hb dX9_isBelow_52 rfl (lv_at hl 4 rfl) ?_
        refine lv_iload_n hx hb dX9_isBelow_53 rfl (lv_at hl 6 rfl) ?_
        refine lv_icmp_ge (tgt := 61) hx hb dX9_isBelow_54 (by decide) (fun c_6 => ?_) (fun c_6 => ?_)
        · have hf := (if_pos c_6).symm.trans hf
          exact J61 () hf _ _ hP hS _ (lv_sub hl [] rfl)
        · have hf := (if_neg c_6).symm.trans hf
          exact J57 () hf _ _ hP hS _ (lv_sub hl [] rfl)
  unfold fX9_isBelow at hf
  refine lv_iload_n hx hb dX9_isBelow_0 rfl (lv_at hl 1 rfl) ?_
  refine lv_iload_n hx hb dX9_isBelow_1 rfl (lv_at hl 3 rfl) ?_
  refine lv_icmp_ge (tgt := 9) hx hb dX9_isBelow_2 (by decide) (fun c_7 => ?_) (fun c_7 => ?_)
  · have hf := (if_pos c_7).symm.trans hf
    refine lv_iload_n hx hb dX9_isBelow_9 rfl (lv_at hl 3 rfl) ?_
    exact J10 p0 p1 p2 p3 p4 p3 hf _ _ hP hS _ (lv_sub hl [0, 1, 2, 3, 4] rfl)
  · have hf := (if_neg c_7).symm.trans hf
    refine lv_iload_n hx hb dX9_isBelow_5 rfl (lv_at hl 1 rfl) ?_
    refine lv_goto (tgt := 10) hx hb dX9_isBelow_6 (by decide) ?_
    exact J10 p0 p1 p2 p3 p4 p1 hf _ _ hP hS _ (lv_sub hl [0, 1, 2, 3, 4] rfl)
set_option maxHeartbeats 4000000 in
set_option maxRecDepth 100000 in
theorem kX9_nextLyndon (l : Launch) (D : va_G) (cI cJ cD : ClassId) (q : Nat → Nat) (hq : gInj q) (N : Nat) (Mh : Int32) (Mn : Int32) (Mm : Int32) (Mw : (Nat → Int32)) (Ml : (Nat → Int32)) (p1 : Int32) (p2 : Int32) (p3 : Int32) (r0 : Int32) (Mw9 : (Nat → Int32)) (Ml9 : (Nat → Int32)) (hf : fX9_nextLyndon N Mh Mn Mm Mw Ml p1 p2 p3 = some (r0, Mw9, Ml9)) : Met l yX9_nextLyndon wsX9_nextLyndon rX9_nextLyndon (gP D cI cJ cD [.ref (q 14), .int p1, .int p2, .int p3] (w_14_20_21 q cI cJ cD Mh Mn Mm Mw Ml)) (gQ D (some (.int r0)) (w_14_20_21 q cI cJ cD Mh Mn Mm Mw9 Ml9) (gA q [14, 20, 21])) 0 0 (gA q [14, 20, 21]) := by
  refine Met.ofW (cc := cX9_nextLyndon) (maxL := 8) (ret := (some .int)) (by decide +kernel) rfl ?_
  intro p e s m args below meth c s₁ B hml hv
  obtain ⟨rfl, hP, hE⟩ := hv
  have hx := B.exec
  have hb := B.bytes
  have hr := B.returns
  have hts := atoms_spec (ws := wsX9_nextLyndon) B.pre
  have hown : s.vm.findClass RX9 = some m.cls := findClass_of_methodNamed B.named
  have hlocks := B.notSynchronized
  have hS : va_S (gA q [14, 20, 21]) s.heap s.heap [] := va_S.rf
  have hl := lv_entry ([.ref (q 14), .int p1, .int p2, .int p3]) (n := 8) (Nat.le_of_ble_eq_true rfl)
  rw [lg_entry_eq]
  generalize (lg_sl ([.ref (q 14), .int p1, .int p2, .int p3]) ++ List.replicate (8 - (lg_sl ([.ref (q 14), .int p1, .int p2, .int p3])).length) Slot.unset).toArray = ls at hl ⊢
  have hl : lv_has ls 8 [(0, .ref (q 14)), (1, .int p1), (2, .int p2), (3, .int p3)] := hl
  have hDm : ∀ (z0 : Int32) (z1 : Int32) (z2 : Int32) (z3 : (Nat → Int32)) (z4 : (Nat → Int32)), va_D (gA q [14, 20, 21]) (w_14_20_21 q cI cJ cD z0 z1 z2 z3 z4) := fun _ _ _ _ _ => gD_of hq [14, 20, 21] rfl rfl rfl (fun k h => ⟨k, h, rfl⟩)
  have hk28 := hts (.fieldLink RX9 28 "LyndonTextModel" "latest" "[I") (by decide +kernel)
  have hk25 := hts (.fieldLink RX9 25 "LyndonTextModel" "word" "[I") (by decide +kernel)
  have huX9 : ∀ w ∈ u_ws RX9 TX9 11, w ∈ wsX9_nextLyndon := by decide +kernel
  have J147 : ∀ (Mw : (Nat → Int32)) (Ml : (Nat → Int32)) (x4 : Int32), fX9_nextLyndon_J147 N Mh Mn Mm Mw Ml x4 = some (r0, Mw9, Ml9) → ∀ (H : Heap) (locs : List Loc), va_P D vwCl (w_14_20_21 q cI cJ cD Mh Mn Mm Mw Ml) H → va_S (gA q [14, 20, 21]) s.heap H locs → ∀ ls : Array Slot, lv_has ls 8 [(4, .int x4)] → W p l e (headSpec wsX9_nextLyndon rX9_nextLyndon).room s m ([.ref (q 14), .int p1, .int p2, .int p3] : List Value).toArray below meth c H locs 0 0 (MQ below (gQ D (some (.int r0)) (w_14_20_21 q cI cJ cD Mh Mn Mm Mw9 Ml9) (gA q [14, 20, 21])) ([.ref (q 14), .int p1, .int p2, .int p3] : List Value).toArray s 0 0 (gA q [14, 20, 21])) (F0 m 147 ls []) := by
    intro Mw Ml x4 hf H locs hP hS ls hl
    unfold fX9_nextLyndon_J147 at hf
    refine lv_iload hx hb dX9_nextLyndon_147 (lv_at hl 0 rfl) ?_
    cases hf
    exact W.iret hx hb hr (fun t ht hW => ⟨⟨rfl, by rw [ht]; exact hP⟩, hS.F ht⟩) hS.2.2 dX9_nextLyndon_149
  have K120 : ∀ (n120 : Nat) (Mw : (Nat → Int32)) (Ml : (Nat → Int32)) (x4 : Int32) (x6 : Int32), fX9_nextLyndon_H120 N Mh Mn Mm n120 Mw Ml x4 x6 = some (r0, Mw9, Ml9) → ∀ (H : Heap) (locs : List Loc), va_P D vwCl (w_14_20_21 q cI cJ cD Mh Mn Mm Mw Ml) H → va_S (gA q [14, 20, 21]) s.heap H locs → ∀ ls : Array Slot, lv_has ls 8 [(0, .ref (q 14)), (4, .int x4), (6, .int x6)] → W p l e (headSpec wsX9_nextLyndon rX9_nextLyndon).room s m ([.ref (q 14), .int p1, .int p2, .int p3] : List Value).toArray below meth c H locs 0 0 (MQ below (gQ D (some (.int r0)) (w_14_20_21 q cI cJ cD Mh Mn Mm Mw9 Ml9) (gA q [14, 20, 21])) ([.ref (q 14), .int p1, .int p2, .int p3] : List Value).toArray s 0 0 (gA q [14, 20, 21])) (F0 m 120 ls []) := by
    intro n120
    induction n120 with
    | zero =>
      intro Mw Ml x4 x6 hf
      exact nomatch (show (none : Option (Int32 × (Nat → Int32) × (Nat → Int32))) = some (r0, Mw9, Ml9) from hf)
    | succ n120 ih120 =>
      intro Mw Ml x4 x6 hf H locs hP hS ls hl
      have hf : fX9_nextLyndon_B120 N Mh Mn Mm (fX9_nextLyndon_H120 N Mh Mn Mm n120) Mw Ml x4 x6 = some (r0, Mw9, Ml9) := hf
      unfold fX9_nextLyndon_B120 at hf
      refine lv_iload hx hb dX9_nextLyndon_120 (lv_at hl 2 rfl) ?_
      refine lv_iload hx hb dX9_nextLyndon_122 (lv_at hl 1 rfl) ?_
      refine lv_icmp_ge (tgt := 147) hx hb dX9_nextLyndon_124 (by decide) (fun c_1 => ?_) (fun c_1 => ?_)
      · have hf := (if_pos c_1).symm.trans hf
        exact J147 Mw Ml x4 hf _ _ hP hS _ (lv_sub hl [1] rfl)
      · have hf := (if_neg c_1).symm.trans hf
        refine lv_aload_n hx hb dX9_nextLyndon_127 rfl (lv_at hl 0 rfl) ?_
        refine va_get (D := D) (ci := 7) (v := .ref (q 21)) (C := RX9) (T := TX9) (N := 11) hx hb hts huX9 hown hE.1 hP 0 rfl rfl 9 (by decide) hk28 (fun _ h9 => h9) rfl dX9_nextLyndon_128 ?_
        refine lv_iload hx hb dX9_nextLyndon_131 (lv_at hl 2 rfl) ?_
        refine lv_aload_n hx hb dX9_nextLyndon_133 rfl (lv_at hl 0 rfl) ?_
        refine va_get (D := D) (ci := 7) (v := .ref (q 20)) (C := RX9) (T := TX9) (N := 11) hx hb hts huX9 hown hE.1 hP 0 rfl rfl 8 (by decide) hk25 (fun _ h9 => h9) rfl dX9_nextLyndon_134 ?_
        refine lv_iload hx hb dX9_nextLyndon_137 (lv_at hl 2 rfl) ?_
        obtain ⟨g_2, hf⟩ := gd_some hf
        refine va_iald hx hb hE.1 hP 1 0 rfl rfl (inb_in g_2) dX9_nextLyndon_139 ?_
        obtain ⟨g_3, hf⟩ := gd_some hf
        refine va_iast hx hb hE.1 hP (hDm Mh Mn Mm Mw Ml) hS 2 0 rfl rfl (inb_in g_3) dX9_nextLyndon_140 (fun H locs hP _ hS => ?_)
        have hP : va_P D vwCl (w_14_20_21 q cI cJ cD Mh Mn Mm Mw (upd Ml (x6).toNatClampNeg (Mw (x6).toNatClampNeg))) H := hP
        refine lv_iinc (v := (x6 + 1)) (lv' := [(6, .int (x6 + 1)), (0, .ref (q 14)), (4, .int x4)]) hx hb dX9_nextLyndon_141 hl (k := 2) rfl rfl (by decide) rfl (fun ls hl => ?_)
        refine lv_goto (tgt := 120) hx hb dX9_nextLyndon_144 (by decide) ?_
        exact ih120 Mw (upd Ml (x6).toNatClampNeg (Mw (x6).toNatClampNeg)) x4 (x6 + 1) hf _ _ hP hS _ (lv_sub hl [1, 2, 0] rfl)
  have J108 : ∀ (Mw : (Nat → Int32)) (Ml : (Nat → Int32)) (x1 : Int32) (x4 : Int32) (x5 : Int32), fX9_nextLyndon_J108 N Mh Mn Mm Mw Ml x1 x4 x5 = some (r0, Mw9, Ml9) → ∀ (H : Heap) (locs : List Loc), va_P D vwCl (w_14_20_21 q cI cJ cD Mh Mn Mm Mw Ml) H → va_S (gA q [14, 20, 21]) s.heap H locs → ∀ ls : Array Slot, lv_has ls 8 [(0, .ref (q 14)), (1, .int x1), (4, .int x4), (5, .int x5)] → W p l e (headSpec wsX9_nextLyndon rX9_nextLyndon).room s m ([.ref (q 14), .int p1, .int p2, .int p3] : List Value).toArray below meth c H locs 0 0 (MQ below (gQ D (some (.int r0)) (w_14_20_21 q cI cJ cD Mh Mn Mm Mw9 Ml9) (gA q [14, 20, 21])) ([.ref (q 14), .int p1, .int p2, .int p3] : List Value).toArray s 0 0 (gA q [14, 20, 21])) (F0 m 108 ls []) := by
    intro Mw Ml x1 x4 x5 hf H locs hP hS ls hl
    unfold fX9_nextLyndon_J108 at hf
    refine lv_aload_n hx hb dX9_nextLyndon_108 rfl (lv_at hl 0 rfl) ?_
    refine lv_iload hx hb dX9_nextLyndon_109 (lv_at hl 3 rfl) ?_
    refine lv_iload_n hx hb dX9_nextLyndon_111 rfl (lv_at hl 1 rfl) ?_
    refine lv_iload hx hb dX9_nextLyndon_112 (lv_at hl 2 rfl) ?_
    obtain ⟨Mw114, hc, hf⟩ := bn_some hf
    try dsimp only at hf
    refine g_call0 (ws' := (w_14_20_21 q cI cJ cD Mh Mn Mm Mw114 Ml)) (st1 := []) hq [14, 20, 21] [14, 20] [.inl 0, .inl 1, .inr 2] (va_runV (As := [.int x5, .int x1, .int x4]) (rest := []) ⟨hx, hb, hml, hown, hts⟩ (kX9_layWord l D cI cJ cD q hq N Mh Mn Mm Mw x5 x1 x4 Mw114 hc) (cwV 3 hts gX9_nextLyndon_X9_layWord rfl rfl rfl (by decide +kernel) ⟨(Nat.le_of_ble_eq_true rfl), (Nat.le_of_ble_eq_true rfl)⟩) ⟨gP_blind, va_recv hE.1 hP (ci := 7) (q0 := 0) rfl rfl, fun U hU hW => ⟨rfl, by rw [hU]; exact hP.sub (ws' := (w_14_20 q cI cJ cD Mh Mn Mm Mw)) [0, 1] rfl, gEv.warm hW hE⟩⟩ rfl rfl hl.1 rfl (lv_room (Nat.le_of_ble_eq_true rfl)) dX9_nextLyndon_114 ⟨Nat.zero_le _, Nat.zero_le _⟩) hP hS (gSub rfl) rfl rfl rfl rfl rfl (fun H locs hP hS => ?_)
    refine lv_iconst (v := (0 : Int32)) hx hb dX9_nextLyndon_117 (by decide) ?_
    refine lv_istore (lv' := [(6, .int (0 : Int32)), (0, .ref (q 14)), (1, .int x1), (4, .int x4), (5, .int x5)]) hx hb dX9_nextLyndon_118 hl (by decide) rfl (fun ls hl => ?_)
    exact K120 N Mw114 Ml x4 (0 : Int32) hf _ _ hP hS _ (lv_sub hl [1, 3, 0] rfl)
  have K9 : ∀ (n9 : Nat) (Mw : (Nat → Int32)) (Ml : (Nat → Int32)) (x1 : Int32) (x2 : Int32) (x3 : Int32) (x4 : Int32) (x5 : Int32) (x6 : Int32), fX9_nextLyndon_H9 N Mh Mn Mm n9 Mw Ml x1 x2 x3 x4 x5 x6 = some (r0, Mw9, Ml9) → ∀ (H : Heap) (locs : List Loc), va_P D vwCl (w_14_20_21 q cI cJ cD Mh Mn Mm Mw Ml) H → va_S (gA q [14, 20, 21]) s.heap H locs → ∀ ls : Array Slot, lv_has ls 8 [(0, .ref (q 14)), (1, .int x1), (2, .int x2), (3, .int x3), (4, .int x4), (5, .int x5), (6, .int x6)] → W p l e (headSpec wsX9_nextLyndon rX9_nextLyndon).room s m ([.ref (q 14), .int p1, .int p2, .int p3] : List Value).toArray below meth c H locs 0 0 (MQ below (gQ D (some (.int r0)) (w_14_20_21 q cI cJ cD Mh Mn Mm Mw9 Ml9) (gA q [14, 20, 21])) ([.ref (q 14), .int p1, .int p2, .int p3] : List Value).toArray s 0 0 (gA q [14, 20, 21])) (F0 m 9 ls []) := by
    intro n9
    induction n9 with
    | zero =>
      intro Mw Ml x1 x2 x3 x4 x5 x6 hf
      exact nomatch (show (none : Option (Int32 × (Nat → Int32) × (Nat → Int32))) = some (r0, Mw9, Ml9) from hf)
    | succ n9 ih9 =>
      have J102 : ∀ (Mw : (Nat → Int32)) (Ml : (Nat → Int32)) (x1 : Int32) (x2 : Int32) (x3 : Int32) (x4 : Int32) (x5 : Int32) (x6 : Int32), fX9_nextLyndon_J102 N Mh Mn Mm (fX9_nextLyndon_H9 N Mh Mn Mm n9) Mw Ml x1 x2 x3 x4 x5 x6 = some (r0, Mw9, Ml9) → ∀ (H : Heap) (locs : List Loc), va_P D vwCl (w_14_20_21 q cI cJ cD Mh Mn Mm Mw Ml) H → va_S (gA q [14, 20, 21]) s.heap H locs → ∀ ls : Array Slot, lv_has ls 8 [(0, .ref (q 14)), (1, .int x1), (2, .int x2), (3, .int x3), (4, .int x4), (5, .int x5), (6, .int x6)] → W p l e (headSpec wsX9_nextLyndon rX9_nextLyndon).room s m ([.ref (q 14), .int p1, .int p2, .int p3] : List Value).toArray below meth c H locs 0 0 (MQ below (gQ D (some (.int r0)) (w_14_20_21 q cI cJ cD Mh Mn Mm Mw9 Ml9) (gA q [14, 20, 21])) ([.ref (q 14), .int p1, .int p2, .int p3] : List Value).toArray s 0 0 (gA q [14, 20, 21])) (F0 m 102 ls []) := by
        intro Mw Ml x1 x2 x3 x4 x5 x6 hf H locs hP hS ls hl
        unfold fX9_nextLyndon_J102 at hf
        refine lv_iinc (v := (x6 + 1)) (lv' := [(6, .int (x6 + 1)), (0, .ref (q 14)), (1, .int x1), (2, .int x2), (3, .int x3), (4, .int x4), (5, .int x5)]) hx hb dX9_nextLyndon_102 hl (k := 6) rfl rfl (by decide) rfl (fun ls hl => ?_)
        refine lv_goto (tgt := 9) hx hb dX9_nextLyndon_105 (by decide) ?_
        exact ih9 Mw Ml x1 x2 x3 x4 x5 (x6 + 1) hf _ _ hP hS _ (lv_sub hl [1, 2, 3, 4, 5, 6, 0] rfl)
      have K18 : ∀ (n18 : Nat) (Mw : (Nat → Int32)) (Ml : (Nat → Int32)) (x1 : Int32) (x2 : Int32) (x3 : Int32) (x4 : Int32) (x5 : Int32) (x6 : Int32) (x7 : Int32), fX9_nextLyndon_H18 N Mh Mn Mm (fX9_nextLyndon_H9 N Mh Mn Mm n9) n18 Mw Ml x1 x2 x3 x4 x5 x6 x7 = some (r0, Mw9, Ml9) → ∀ (H : Heap) (locs : List Loc), va_P D vwCl (w_14_20_21 q cI cJ cD Mh Mn Mm Mw Ml) H → va_S (gA q [14, 20, 21]) s.heap H locs → ∀ ls : Array Slot, lv_has ls 8 [(0, .ref (q 14)), (1, .int x1), (2, .int x2), (3, .int x3), (4, .int x4), (5, .int x5), (6, .int x6), (7, .int x7)] → W p l e (headSpec wsX9_nextLyndon rX9_nextLyndon).room s m ([.ref (q 14), .int p1, .int p2, .int p3] : List Value).toArray below meth c H locs 0 0 (MQ below (gQ D (some (.int r0)) (w_14_20_21 q cI cJ cD Mh Mn Mm Mw9 Ml9) (gA q [14, 20, 21])) ([.ref (q 14), .int p1, .int p2, .int p3] : List Value).toArray s 0 0 (gA q [14, 20, 21])) (F0 m 18 ls []) := by
        intro n18
        induction n18 with
        | zero =>
          intro Mw Ml x1 x2 x3 x4 x5 x6 x7 hf
          exact nomatch (show (none : Option (Int32 × (Nat → Int32) × (Nat → Int32))) = some (r0, Mw9, Ml9) from hf)
        | succ n18 ih18 =>
          have J96 : ∀ (Mw : (Nat → Int32)) (Ml : (Nat → Int32)) (x1 : Int32) (x2 : Int32) (x3 : Int32) (x4 : Int32) (x5 : Int32) (x6 : Int32) (x7 : Int32), fX9_nextLyndon_J96 N Mh Mn Mm (fX9_nextLyndon_H9 N Mh Mn Mm n9) (fX9_nextLyndon_H18 N Mh Mn Mm (fX9_nextLyndon_H9 N Mh Mn Mm n9) n18) Mw Ml x1 x2 x3 x4 x5 x6 x7 = some (r0, Mw9, Ml9) → ∀ (H : Heap) (locs : List Loc), va_P D vwCl (w_14_20_21 q cI cJ cD Mh Mn Mm Mw Ml) H → va_S (gA q [14, 20, 21]) s.heap H locs → ∀ ls : Array Slot, lv_has ls 8 [(0, .ref (q 14)), (1, .int x1), (2, .int x2), (3, .int x3), (4, .int x4), (5, .int x5), (6, .int x6), (7, .int x7)] → W p l e (headSpec wsX9_nextLyndon rX9_nextLyndon).room s m ([.ref (q 14), .int p1, .int p2, .int p3] : List Value).toArray below meth c H locs 0 0 (MQ below (gQ D (some (.int r0)) (w_14_20_21 q cI cJ cD Mh Mn Mm Mw9 Ml9) (gA q [14, 20, 21])) ([.ref (q 14), .int p1, .int p2, .int p3] : List Value).toArray s 0 0 (gA q [14, 20, 21])) (F0 m 96 ls []) := by
            intro Mw Ml x1 x2 x3 x4 x5 x6 x7 hf H locs hP hS ls hl
            unfold fX9_nextLyndon_J96 at hf
            refine lv_iinc (v := (x7 + 1)) (lv' := [(7, .int (x7 + 1)), (0, .ref (q 14)), (1, .int x1), (2, .int x2), (3, .int x3), (4, .int x4), (5, .int x5), (6, .int x6)]) hx hb dX9_nextLyndon_96 hl (k := 7) rfl rfl (by decide) rfl (fun ls hl => ?_)
            refine lv_goto (tgt := 18) hx hb dX9_nextLyndon_99 (by decide) ?_
            exact ih18 Mw Ml x1 x2 x3 x4 x5 x6 (x7 + 1) hf _ _ hP hS _ (lv_sub hl [1, 2, 3, 4, 5, 6, 7, 0] rfl)
          have J88 : ∀ (Mw : (Nat → Int32)) (Ml : (Nat → Int32)) (x1 : Int32) (x2 : Int32) (x3 : Int32) (x6 : Int32) (x7 : Int32), fX9_nextLyndon_J88 N Mh Mn Mm (fX9_nextLyndon_H9 N Mh Mn Mm n9) (fX9_nextLyndon_H18 N Mh Mn Mm (fX9_nextLyndon_H9 N Mh Mn Mm n9) n18) Mw Ml x1 x2 x3 x6 x7 = some (r0, Mw9, Ml9) → ∀ (H : Heap) (locs : List Loc), va_P D vwCl (w_14_20_21 q cI cJ cD Mh Mn Mm Mw Ml) H → va_S (gA q [14, 20, 21]) s.heap H locs → ∀ ls : Array Slot, lv_has ls 8 [(0, .ref (q 14)), (1, .int x1), (2, .int x2), (3, .int x3), (6, .int x6), (7, .int x7)] → W p l e (headSpec wsX9_nextLyndon rX9_nextLyndon).room s m ([.ref (q 14), .int p1, .int p2, .int p3] : List Value).toArray below meth c H locs 0 0 (MQ below (gQ D (some (.int r0)) (w_14_20_21 q cI cJ cD Mh Mn Mm Mw9 Ml9) (gA q [14, 20, 21])) ([.ref (q 14), .int p1, .int p2, .int p3] : List Value).toArray s 0 0 (gA q [14, 20, 21])) (F0 m 88 ls []) := by
            intro Mw Ml x1 x2 x3 x6 x7 hf H locs hP hS ls hl
            unfold fX9_nextLyndon_J88 at hf
            refine lv_iload hx hb dX9_nextLyndon_88 (lv_at hl 4 rfl) ?_
            refine lv_istore (lv' := [(4, .int x6), (0, .ref (q 14)), (1, .int x1), (2, .int x2), (3, .int x3), (6, .int x6), (7, .int x7)]) hx hb dX9_nextLyndon_90 hl (by decide) rfl (fun ls hl => ?_)
            refine lv_iload hx hb dX9_nextLyndon_92 (lv_at hl 6 rfl) ?_
            refine lv_istore (lv' := [(5, .int x7), (4, .int x6), (0, .ref (q 14)), (1, .int x1), (2, .int x2), (3, .int x3), (6, .int x6), (7, .int x7)]) hx hb dX9_nextLyndon_94 hl (by decide) rfl (fun ls hl => ?_)
            exact J96 Mw Ml x1 x2 x3 x6 x7 x6 x7 hf _ _ hP hS _ (lv_sub hl [2, 3, 4, 5, 1, 0, 6, 7] rfl)
          have J68 : ∀ (Mw : (Nat → Int32)) (Ml : (Nat → Int32)) (x1 : Int32) (x2 : Int32) (x3 : Int32) (x4 : Int32) (x5 : Int32) (x6 : Int32) (x7 : Int32), fX9_nextLyndon_J68 N Mh Mn Mm (fX9_nextLyndon_H9 N Mh Mn Mm n9) (fX9_nextLyndon_H18 N Mh Mn Mm (fX9_nextLyndon_H9 N Mh Mn Mm n9) n18) Mw Ml x1 x2 x3 x4 x5 x6 x7 = some (r0, Mw9, Ml9) → ∀ (H : Heap) (locs : List Loc), va_P D vwCl (w_14_20_21 q cI cJ cD Mh Mn Mm Mw Ml) H → va_S (gA q [14, 20, 21]) s.heap H locs → ∀ ls : Array Slot, lv_has ls 8 [(0, .ref (q 14)), (1, .int x1), (2, .int x2), (3, .int x3), (4, .int x4), (5, .int x5), (6, .int x6), (7, .int x7)] → W p l e (headSpec wsX9_nextLyndon rX9_nextLyndon).room s m ([.ref (q 14), .int p1, .int p2, .int p3] : List Value).toArray below meth c H locs 0 0 (MQ below (gQ D (some (.int r0)) (w_14_20_21 q cI cJ cD Mh Mn Mm Mw9 Ml9) (gA q [14, 20, 21])) ([.ref (q 14), .int p1, .int p2, .int p3] : List Value).toArray s 0 0 (gA q [14, 20, 21])) (F0 m 68 ls []) := by
            intro Mw Ml x1 x2 x3 x4 x5 x6 x7 hf H locs hP hS ls hl
            unfold fX9_nextLyndon_J68 at hf
            refine lv_iload hx hb dX9_nextLyndon_68 (lv_at hl 4 rfl) ?_
            refine lv_if_eq (tgt := 88) hx hb dX9_nextLyndon_70 (by decide) (fun c_4 => ?_) (fun c_4 => ?_)
            · have hf := (if_pos c_4).symm.trans hf
              exact J88 Mw Ml x1 x2 x3 x6 x7 hf _ _ hP hS _ (lv_sub hl [0, 1, 2, 3, 6, 7] rfl)
            · have hf := (if_neg c_4).symm.trans hf
              refine lv_iload hx hb dX9_nextLyndon_73 (lv_at hl 7 rfl) ?_
              refine lv_iload hx hb dX9_nextLyndon_75 (lv_at hl 6 rfl) ?_
              refine lv_iload hx hb dX9_nextLyndon_77 (lv_at hl 5 rfl) ?_
              refine lv_iload hx hb dX9_nextLyndon_79 (lv_at hl 4 rfl) ?_
              refine lv_iload_n hx hb dX9_nextLyndon_81 rfl (lv_at hl 1 rfl) ?_
              obtain ⟨r82, hc, hf⟩ := bn_some hf
              try dsimp only at hf
              refine g_call0 (ws' := (w_14_20_21 q cI cJ cD Mh Mn Mm Mw Ml)) (st1 := [.int r82]) hq [14, 20, 21] [] [.inr 0, .inr 1, .inr 2] (va_runS (As := [.int x7, .int x6, .int x5, .int x4, .int x1]) (rest := []) ⟨hx, hb, hml, hown, hts⟩ (kX9_isBelow l D cI cJ cD q hq N x7 x6 x5 x4 x1 r82 hc) (va_cwS 5 hts gX9_nextLyndon_X9_isBelow rfl rfl rfl (by decide +kernel) ⟨(Nat.le_of_ble_eq_true rfl), (Nat.le_of_ble_eq_true rfl)⟩) ⟨gP_blind, fun U hU hW => ⟨rfl, by rw [hU]; exact hP.sub (ws' := (w_0none q cI cJ cD)) [] rfl, gEv.warm hW hE⟩⟩ rfl rfl hl.1 rfl (lv_room (Nat.le_of_ble_eq_true rfl)) dX9_nextLyndon_82 ⟨Nat.zero_le _, Nat.zero_le _⟩) hP hS (gSub rfl) rfl rfl rfl rfl rfl (fun H locs hP hS => ?_)
              refine lv_if_eq (tgt := 96) hx hb dX9_nextLyndon_85 (by decide) (fun c_5 => ?_) (fun c_5 => ?_)
              · have hf := (if_pos c_5).symm.trans hf
                exact J96 Mw Ml x1 x2 x3 x4 x5 x6 x7 hf _ _ hP hS _ (lv_sub hl [0, 1, 2, 3, 4, 5, 6, 7] rfl)
              · have hf := (if_neg c_5).symm.trans hf
                exact J88 Mw Ml x1 x2 x3 x6 x7 hf _ _ hP hS _ (lv_sub hl [0, 1, 2, 3, 6, 7] rfl)
          intro Mw Ml x1 x2 x3 x4 x5 x6 x7 hf H locs hP hS ls hl
          have hf : fX9_nextLyndon_B18 N Mh Mn Mm (fX9_nextLyndon_H9 N Mh Mn Mm n9) (fX9_nextLyndon_H18 N Mh Mn Mm (fX9_nextLyndon_H9 N Mh Mn Mm n9) n18) Mw Ml x1 x2 x3 x4 x5 x6 x7 = some (r0, Mw9, Ml9) := hf
          unfold fX9_nextLyndon_B18 at hf
          refine lv_iload_n hx hb dX9_nextLyndon_18 rfl (lv_at hl 2 rfl) ?_
          refine lv_iload hx hb dX9_nextLyndon_19 (lv_at hl 6 rfl) ?_
          obtain ⟨g_6, hf⟩ := gd_some hf
          refine lv_irem hx hb dX9_nextLyndon_21 (nz_ne g_6) ?_
          refine lv_if_ne (tgt := 102) hx hb dX9_nextLyndon_22 (by decide) (fun c_7 => ?_) (fun c_7 => ?_)
          · have hf := (if_neg c_7).symm.trans hf
            exact J102 Mw Ml x1 x2 x3 x4 x5 x6 hf _ _ hP hS _ (lv_sub hl [0, 1, 2, 3, 4, 5, 6] rfl)
          · have hf := (if_pos c_7).symm.trans hf
            refine lv_iload hx hb dX9_nextLyndon_25 (lv_at hl 7 rfl) ?_
            refine lv_iload_n hx hb dX9_nextLyndon_27 rfl (lv_at hl 1 rfl) ?_
            refine lv_iload hx hb dX9_nextLyndon_28 (lv_at hl 6 rfl) ?_
            obtain ⟨r30, hc, hf⟩ := bn_some hf
            try dsimp only at hf
            refine g_call0 (ws' := (w_14_20_21 q cI cJ cD Mh Mn Mm Mw Ml)) (st1 := [.int r30, .int x7]) hq [14, 20, 21] [] [.inr 0, .inr 1, .inr 2] (va_runS (As := [.int x1, .int x6]) (rest := [.int x7]) ⟨hx, hb, hml, hown, hts⟩ (kX9_power l D cI cJ cD q hq N x1 x6 r30 hc) (va_cwS 2 hts gX9_nextLyndon_X9_power rfl rfl rfl (by decide +kernel) ⟨(Nat.le_of_ble_eq_true rfl), (Nat.le_of_ble_eq_true rfl)⟩) ⟨gP_blind, fun U hU hW => ⟨rfl, by rw [hU]; exact hP.sub (ws' := (w_0none q cI cJ cD)) [] rfl, gEv.warm hW hE⟩⟩ rfl rfl hl.1 rfl (lv_room (Nat.le_of_ble_eq_true rfl)) dX9_nextLyndon_30 ⟨Nat.zero_le _, Nat.zero_le _⟩) hP hS (gSub rfl) rfl rfl rfl rfl rfl (fun H locs hP hS => ?_)
            refine lv_icmp_ge (tgt := 102) hx hb dX9_nextLyndon_33 (by decide) (fun c_8 => ?_) (fun c_8 => ?_)
            · have hf := (if_pos c_8).symm.trans hf
              exact J102 Mw Ml x1 x2 x3 x4 x5 x6 hf _ _ hP hS _ (lv_sub hl [0, 1, 2, 3, 4, 5, 6] rfl)
            · have hf := (if_neg c_8).symm.trans hf
              refine lv_aload_n hx hb dX9_nextLyndon_36 rfl (lv_at hl 0 rfl) ?_
              refine lv_iload hx hb dX9_nextLyndon_37 (lv_at hl 7 rfl) ?_
              refine lv_iload_n hx hb dX9_nextLyndon_39 rfl (lv_at hl 1 rfl) ?_
              refine lv_iload hx hb dX9_nextLyndon_40 (lv_at hl 6 rfl) ?_
              obtain ⟨Mw42, hc, hf⟩ := bn_some hf
              try dsimp only at hf
              refine g_call0 (ws' := (w_14_20_21 q cI cJ cD Mh Mn Mm Mw42 Ml)) (st1 := []) hq [14, 20, 21] [14, 20] [.inl 0, .inl 1, .inr 2] (va_runV (As := [.int x7, .int x1, .int x6]) (rest := []) ⟨hx, hb, hml, hown, hts⟩ (kX9_layWord l D cI cJ cD q hq N Mh Mn Mm Mw x7 x1 x6 Mw42 hc) (cwV 3 hts gX9_nextLyndon_X9_layWord rfl rfl rfl (by decide +kernel) ⟨(Nat.le_of_ble_eq_true rfl), (Nat.le_of_ble_eq_true rfl)⟩) ⟨gP_blind, va_recv hE.1 hP (ci := 7) (q0 := 0) rfl rfl, fun U hU hW => ⟨rfl, by rw [hU]; exact hP.sub (ws' := (w_14_20 q cI cJ cD Mh Mn Mm Mw)) [0, 1] rfl, gEv.warm hW hE⟩⟩ rfl rfl hl.1 rfl (lv_room (Nat.le_of_ble_eq_true rfl)) dX9_nextLyndon_42 ⟨Nat.zero_le _, Nat.zero_le _⟩) hP hS (gSub rfl) rfl rfl rfl rfl rfl (fun H locs hP hS => ?_)
              refine lv_aload_n hx hb dX9_nextLyndon_45 rfl (lv_at hl 0 rfl) ?_
              refine lv_iload hx hb dX9_nextLyndon_46 (lv_at hl 6 rfl) ?_
              obtain ⟨r48, hc, hf⟩ := bn_some hf
              try dsimp only at hf
              refine g_call0 (ws' := (w_14_20_21 q cI cJ cD Mh Mn Mm Mw42 Ml)) (st1 := [.int r48]) hq [14, 20, 21] [14, 20] [.inl 0, .inl 1, .inr 2] (va_runV (As := [.int x6]) (rest := []) ⟨hx, hb, hml, hown, hts⟩ (kX9_isLyndonWord l D cI cJ cD q hq N Mh Mn Mm Mw42 x6 r48 hc) (cwV 1 hts gX9_nextLyndon_X9_isLyndonWord rfl rfl rfl (by decide +kernel) ⟨(Nat.le_of_ble_eq_true rfl), (Nat.le_of_ble_eq_true rfl)⟩) ⟨gP_blind, va_recv hE.1 hP (ci := 7) (q0 := 0) rfl rfl, fun U hU hW => ⟨rfl, by rw [hU]; exact hP.sub (ws' := (w_14_20 q cI cJ cD Mh Mn Mm Mw42)) [0, 1] rfl, gEv.warm hW hE⟩⟩ rfl rfl hl.1 rfl (lv_room (Nat.le_of_ble_eq_true rfl)) dX9_nextLyndon_48 ⟨Nat.zero_le _, Nat.zero_le _⟩) hP hS (gSub rfl) rfl rfl rfl rfl rfl (fun H locs hP hS => ?_)
              refine lv_if_eq (tgt := 96) hx hb dX9_nextLyndon_51 (by decide) (fun c_9 => ?_) (fun c_9 => ?_)
              · have hf := (if_pos c_9).symm.trans hf
                exact J96 Mw42 Ml x1 x2 x3 x4 x5 x6 x7 hf _ _ hP hS _ (lv_sub hl [0, 1, 2, 3, 4, 5, 6, 7] rfl)
              · have hf := (if_neg c_9).symm.trans hf
                refine lv_iload_n hx hb dX9_nextLyndon_54 rfl (lv_at hl 3 rfl) ?_
                refine lv_if_eq (tgt := 68) hx hb dX9_nextLyndon_55 (by decide) (fun c_10 => ?_) (fun c_10 => ?_)
                · have hf := (if_pos c_10).symm.trans hf
                  exact J68 Mw42 Ml x1 x2 x3 x4 x5 x6 x7 hf _ _ hP hS _ (lv_sub hl [0, 1, 2, 3, 4, 5, 6, 7] rfl)
                · have hf := (if_neg c_10).symm.trans hf
                  refine lv_aload_n hx hb dX9_nextLyndon_58 rfl (lv_at hl 0 rfl) ?_
                  refine lv_iload hx hb dX9_nextLyndon_59 (lv_at hl 6 rfl) ?_
                  refine lv_iload_n hx hb dX9_nextLyndon_61 rfl (lv_at hl 3 rfl) ?_
                  obtain ⟨r62, hc, hf⟩ := bn_some hf
                  try dsimp only at hf
                  refine g_call0 (ws' := (w_14_20_21 q cI cJ cD Mh Mn Mm Mw42 Ml)) (st1 := [.int r62]) hq [14, 20, 21] [14, 20, 21] [.inl 0, .inl 1, .inl 2] (va_runV (As := [.int x6, .int x3]) (rest := []) ⟨hx, hb, hml, hown, hts⟩ (kX9_compareWords l D cI cJ cD q hq N Mh Mn Mm Mw42 Ml x6 x3 r62 hc) (cwV 2 hts gX9_nextLyndon_X9_compareWords rfl rfl rfl (by decide +kernel) ⟨(Nat.le_of_ble_eq_true rfl), (Nat.le_of_ble_eq_true rfl)⟩) ⟨gP_blind, va_recv hE.1 hP (ci := 7) (q0 := 0) rfl rfl, fun U hU hW => ⟨rfl, by rw [hU]; exact hP.sub (ws' := (w_14_20_21 q cI cJ cD Mh Mn Mm Mw42 Ml)) [0, 1, 2] rfl, gEv.warm hW hE⟩⟩ rfl rfl hl.1 rfl (lv_room (Nat.le_of_ble_eq_true rfl)) dX9_nextLyndon_62 ⟨Nat.zero_le _, Nat.zero_le _⟩) hP hS (gSub rfl) rfl rfl rfl rfl rfl (fun H locs hP hS => ?_)
                  refine lv_if_le (tgt := 96) hx hb dX9_nextLyndon_65 (by decide) (fun c_11 => ?_) (fun c_11 => ?_)
                  · have hf := (if_pos c_11).symm.trans hf
                    exact J96 Mw42 Ml x1 x2 x3 x4 x5 x6 x7 hf _ _ hP hS _ (lv_sub hl [0, 1, 2, 3, 4, 5, 6, 7] rfl)
                  · have hf := (if_neg c_11).symm.trans hf
                    exact J68 Mw42 Ml x1 x2 x3 x4 x5 x6 x7 hf _ _ hP hS _ (lv_sub hl [0, 1, 2, 3, 4, 5, 6, 7] rfl)
      intro Mw Ml x1 x2 x3 x4 x5 x6 hf H locs hP hS ls hl
      have hf : fX9_nextLyndon_B9 N Mh Mn Mm (fX9_nextLyndon_H9 N Mh Mn Mm n9) Mw Ml x1 x2 x3 x4 x5 x6 = some (r0, Mw9, Ml9) := hf
      unfold fX9_nextLyndon_B9 at hf
      refine lv_iload hx hb dX9_nextLyndon_9 (lv_at hl 6 rfl) ?_
      refine lv_iload_n hx hb dX9_nextLyndon_11 rfl (lv_at hl 2 rfl) ?_
      refine lv_icmp_gt (tgt := 108) hx hb dX9_nextLyndon_12 (by decide) (fun c_12 => ?_) (fun c_12 => ?_)
      · have hf := (if_pos c_12).symm.trans hf
        exact J108 Mw Ml x1 x4 x5 hf _ _ hP hS _ (lv_sub hl [0, 1, 4, 5] rfl)
      · have hf := (if_neg c_12).symm.trans hf
        refine lv_iconst (v := (0 : Int32)) hx hb dX9_nextLyndon_15 (by decide) ?_
        refine lv_istore (lv' := [(7, .int (0 : Int32)), (0, .ref (q 14)), (1, .int x1), (2, .int x2), (3, .int x3), (4, .int x4), (5, .int x5), (6, .int x6)]) hx hb dX9_nextLyndon_16 hl (by decide) rfl (fun ls hl => ?_)
        exact K18 N Mw Ml x1 x2 x3 x4 x5 x6 (0 : Int32) hf _ _ hP hS _ (lv_sub hl [1, 2, 3, 4, 5, 6, 7, 0] rfl)
  unfold fX9_nextLyndon at hf
  refine lv_iconst (v := (0 : Int32)) hx hb dX9_nextLyndon_0 (by decide) ?_
  refine lv_istore (lv' := [(4, .int (0 : Int32)), (0, .ref (q 14)), (1, .int p1), (2, .int p2), (3, .int p3)]) hx hb dX9_nextLyndon_1 hl (by decide) rfl (fun ls hl => ?_)
  refine lv_iconst (v := (0 : Int32)) hx hb dX9_nextLyndon_3 (by decide) ?_
  refine lv_istore (lv' := [(5, .int (0 : Int32)), (4, .int (0 : Int32)), (0, .ref (q 14)), (1, .int p1), (2, .int p2), (3, .int p3)]) hx hb dX9_nextLyndon_4 hl (by decide) rfl (fun ls hl => ?_)
  refine lv_iconst (v := (1 : Int32)) hx hb dX9_nextLyndon_6 (by decide) ?_
  refine lv_istore (lv' := [(6, .int (1 : Int32)), (5, .int (0 : Int32)), (4, .int (0 : Int32)), (0, .ref (q 14)), (1, .int p1), (2, .int p2), (3, .int p3)]) hx hb dX9_nextLyndon_7 hl (by decide) rfl (fun ls hl => ?_)
  exact K9 N Mw Ml p1 p2 p3 (0 : Int32) (0 : Int32) (1 : Int32) hf _ _ hP hS _ (lv_sub hl [3, 4, 5, 6, 2, 1, 0] rfl)
set_option maxHeartbeats 4000000 in
set_option maxRecDepth 100000 in
theorem kX9_isDeBruijn (l : Launch) (D : va_G) (cI cJ cD : ClassId) (q : Nat → Nat) (hq : gInj q) (N : Nat) (p0 : Int32) (p1 : Int32) (r0 : Int32) (hf : fX9_isDeBruijn N p0 p1 = some r0) : Met l yX9_isDeBruijn wsX9_isDeBruijn rX9_isDeBruijn (gP D cI cJ cD [.int p0, .int p1] (w_0none q cI cJ cD)) (gQ D (some (.int r0)) (w_0none q cI cJ cD) (gA q [])) 0 0 (gA q []) := by
  refine Met.ofW (cc := cX9_isDeBruijn) (maxL := 4) (ret := (some .boolean)) (by decide +kernel) rfl ?_
  intro p e s m args below meth c s₁ B hml hv
  obtain ⟨rfl, hP, hE⟩ := hv
  have hx := B.exec
  have hb := B.bytes
  have hr := B.returns
  have hts := atoms_spec (ws := wsX9_isDeBruijn) B.pre
  have hown : s.vm.findClass RX9 = some m.cls := findClass_of_methodNamed B.named
  have hlocks := B.notSynchronized
  have hS : va_S (gA q []) s.heap s.heap [] := va_S.rf
  have hl := lv_entry ([.int p0, .int p1]) (n := 4) (Nat.le_of_ble_eq_true rfl)
  rw [lg_entry_eq]
  generalize (lg_sl ([.int p0, .int p1]) ++ List.replicate (4 - (lg_sl ([.int p0, .int p1])).length) Slot.unset).toArray = ls at hl ⊢
  have hl : lv_has ls 4 [(0, .int p0), (1, .int p1)] := hl
  have J66 : ∀ (y0 : Int32), fX9_isDeBruijn_J66 N y0 = some r0 → ∀ (H : Heap) (locs : List Loc), va_P D vwCl (w_0none q cI cJ cD) H → va_S (gA q []) s.heap H locs → ∀ ls : Array Slot, lv_has ls 4 [] → W p l e (headSpec wsX9_isDeBruijn rX9_isDeBruijn).room s m ([.int p0, .int p1] : List Value).toArray below meth c H locs 0 0 (MQ below (gQ D (some (.int r0)) (w_0none q cI cJ cD) (gA q [])) ([.int p0, .int p1] : List Value).toArray s 0 0 (gA q [])) (F0 m 66 ls [.int y0]) := by
    intro y0 hf H locs hP hS ls hl
    unfold fX9_isDeBruijn_J66 at hf
    obtain ⟨g_1, hf⟩ := gd_some hf
    cases hf
    exact W.zret (ty := .boolean) hx hb hr (isB_nar g_1) (fun t ht hW => ⟨⟨rfl, by rw [ht]; exact hP⟩, hS.F ht⟩) hS.2.2 dX9_isDeBruijn_66
  have J65 : ∀ (_ : Unit), fX9_isDeBruijn_J65 N = some r0 → ∀ (H : Heap) (locs : List Loc), va_P D vwCl (w_0none q cI cJ cD) H → va_S (gA q []) s.heap H locs → ∀ ls : Array Slot, lv_has ls 4 [] → W p l e (headSpec wsX9_isDeBruijn rX9_isDeBruijn).room s m ([.int p0, .int p1] : List Value).toArray below meth c H locs 0 0 (MQ below (gQ D (some (.int r0)) (w_0none q cI cJ cD) (gA q [])) ([.int p0, .int p1] : List Value).toArray s 0 0 (gA q [])) (F0 m 65 ls []) := by
    intro _ hf H locs hP hS ls hl
    unfold fX9_isDeBruijn_J65 at hf
    refine lv_iconst (v := (0 : Int32)) hx hb dX9_isDeBruijn_65 (by decide) ?_
    exact J66 (0 : Int32) hf _ _ hP hS _ (lv_sub hl [] rfl)
  have J35 : ∀ (x0 : Int32) (x1 : Int32) (x2 : Int32), fX9_isDeBruijn_J35 N x0 x1 x2 = some r0 → ∀ (H : Heap) (locs : List Loc), va_P D vwCl (w_0none q cI cJ cD) H → va_S (gA q []) s.heap H locs → ∀ ls : Array Slot, lv_has ls 4 [(0, .int x0), (1, .int x1), (2, .int x2)] → W p l e (headSpec wsX9_isDeBruijn rX9_isDeBruijn).room s m ([.int p0, .int p1] : List Value).toArray below meth c H locs 0 0 (MQ below (gQ D (some (.int r0)) (w_0none q cI cJ cD) (gA q [])) ([.int p0, .int p1] : List Value).toArray s 0 0 (gA q [])) (F0 m 35 ls []) := by
    intro x0 x1 x2 hf H locs hP hS ls hl
    unfold fX9_isDeBruijn_J35 at hf
    refine lv_iload_n hx hb dX9_isDeBruijn_35 rfl (lv_at hl 0 rfl) ?_
    refine lv_iconst (v := (1 : Int32)) hx hb dX9_isDeBruijn_36 (by decide) ?_
    refine lv_bipush (v := (8 : Int32)) hx hb dX9_isDeBruijn_37 (by decide) ?_
    obtain ⟨r39, hc, hf⟩ := bn_some hf
    try dsimp only at hf
    refine g_call0 (ws' := (w_0none q cI cJ cD)) (st1 := [.int r39]) hq [] [] [] (va_runS (As := [.int x0, .int (1 : Int32), .int (8 : Int32)]) (rest := []) ⟨hx, hb, hml, hown, hts⟩ (kX9_in l D cI cJ cD q hq N x0 (1 : Int32) (8 : Int32) r39 hc) (va_cwS 3 hts gX9_isDeBruijn_X9_in rfl rfl rfl (by decide +kernel) ⟨(Nat.le_of_ble_eq_true rfl), (Nat.le_of_ble_eq_true rfl)⟩) ⟨gP_blind, fun U hU hW => ⟨rfl, by rw [hU]; exact hP.sub (ws' := (w_0none q cI cJ cD)) [] rfl, gEv.warm hW hE⟩⟩ rfl rfl hl.1 rfl (lv_room (Nat.le_of_ble_eq_true rfl)) dX9_isDeBruijn_39 ⟨Nat.zero_le _, Nat.zero_le _⟩) hP hS (gSub rfl) rfl rfl rfl rfl rfl (fun H locs hP hS => ?_)
    refine lv_if_eq (tgt := 65) hx hb dX9_isDeBruijn_42 (by decide) (fun c_2 => ?_) (fun c_2 => ?_)
    · have hf := (if_pos c_2).symm.trans hf
      exact J65 () hf _ _ hP hS _ (lv_sub hl [] rfl)
    · have hf := (if_neg c_2).symm.trans hf
      refine lv_iload_n hx hb dX9_isDeBruijn_45 rfl (lv_at hl 1 rfl) ?_
      refine lv_iconst (v := (1 : Int32)) hx hb dX9_isDeBruijn_46 (by decide) ?_
      refine lv_bipush (v := (6 : Int32)) hx hb dX9_isDeBruijn_47 (by decide) ?_
      obtain ⟨r49, hc, hf⟩ := bn_some hf
      try dsimp only at hf
      refine g_call0 (ws' := (w_0none q cI cJ cD)) (st1 := [.int r49]) hq [] [] [] (va_runS (As := [.int x1, .int (1 : Int32), .int (6 : Int32)]) (rest := []) ⟨hx, hb, hml, hown, hts⟩ (kX9_in l D cI cJ cD q hq N x1 (1 : Int32) (6 : Int32) r49 hc) (va_cwS 3 hts gX9_isDeBruijn_X9_in rfl rfl rfl (by decide +kernel) ⟨(Nat.le_of_ble_eq_true rfl), (Nat.le_of_ble_eq_true rfl)⟩) ⟨gP_blind, fun U hU hW => ⟨rfl, by rw [hU]; exact hP.sub (ws' := (w_0none q cI cJ cD)) [] rfl, gEv.warm hW hE⟩⟩ rfl rfl hl.1 rfl (lv_room (Nat.le_of_ble_eq_true rfl)) dX9_isDeBruijn_49 ⟨Nat.zero_le _, Nat.zero_le _⟩) hP hS (gSub rfl) rfl rfl rfl rfl rfl (fun H locs hP hS => ?_)
      refine lv_if_eq (tgt := 65) hx hb dX9_isDeBruijn_52 (by decide) (fun c_3 => ?_) (fun c_3 => ?_)
      · have hf := (if_pos c_3).symm.trans hf
        exact J65 () hf _ _ hP hS _ (lv_sub hl [] rfl)
      · have hf := (if_neg c_3).symm.trans hf
        refine lv_iload_n hx hb dX9_isDeBruijn_55 rfl (lv_at hl 2 rfl) ?_
        refine lv_bipush (v := (64 : Int32)) hx hb dX9_isDeBruijn_56 (by decide) ?_
        refine lv_icmp_gt (tgt := 65) hx hb dX9_isDeBruijn_58 (by decide) (fun c_4 => ?_) (fun c_4 => ?_)
        · have hf := (if_pos c_4).symm.trans hf
          exact J65 () hf _ _ hP hS _ (lv_sub hl [] rfl)
        · have hf := (if_neg c_4).symm.trans hf
          refine lv_iconst (v := (1 : Int32)) hx hb dX9_isDeBruijn_61 (by decide) ?_
          refine lv_goto (tgt := 66) hx hb dX9_isDeBruijn_62 (by decide) ?_
          exact J66 (1 : Int32) hf _ _ hP hS _ (lv_sub hl [] rfl)
  have K4 : ∀ (n4 : Nat) (x0 : Int32) (x1 : Int32) (x2 : Int32) (x3 : Int32), fX9_isDeBruijn_H4 N n4 x0 x1 x2 x3 = some r0 → ∀ (H : Heap) (locs : List Loc), va_P D vwCl (w_0none q cI cJ cD) H → va_S (gA q []) s.heap H locs → ∀ ls : Array Slot, lv_has ls 4 [(0, .int x0), (1, .int x1), (2, .int x2), (3, .int x3)] → W p l e (headSpec wsX9_isDeBruijn rX9_isDeBruijn).room s m ([.int p0, .int p1] : List Value).toArray below meth c H locs 0 0 (MQ below (gQ D (some (.int r0)) (w_0none q cI cJ cD) (gA q [])) ([.int p0, .int p1] : List Value).toArray s 0 0 (gA q [])) (F0 m 4 ls []) := by
    intro n4
    induction n4 with
    | zero =>
      intro x0 x1 x2 x3 hf
      exact nomatch (show (none : Option Int32) = some r0 from hf)
    | succ n4 ih4 =>
      intro x0 x1 x2 x3 hf H locs hP hS ls hl
      have hf : fX9_isDeBruijn_B4 N (fX9_isDeBruijn_H4 N n4) x0 x1 x2 x3 = some r0 := hf
      unfold fX9_isDeBruijn_B4 at hf
      refine lv_iload_n hx hb dX9_isDeBruijn_4 rfl (lv_at hl 3 rfl) ?_
      refine lv_iload_n hx hb dX9_isDeBruijn_5 rfl (lv_at hl 1 rfl) ?_
      refine lv_icmp_ge (tgt := 35) hx hb dX9_isDeBruijn_6 (by decide) (fun c_5 => ?_) (fun c_5 => ?_)
      · have hf := (if_pos c_5).symm.trans hf
        exact J35 x0 x1 x2 hf _ _ hP hS _ (lv_sub hl [0, 1, 2] rfl)
      · have hf := (if_neg c_5).symm.trans hf
        refine lv_iload_n hx hb dX9_isDeBruijn_9 rfl (lv_at hl 0 rfl) ?_
        refine lv_iconst (v := (1 : Int32)) hx hb dX9_isDeBruijn_10 (by decide) ?_
        refine lv_bipush (v := (8 : Int32)) hx hb dX9_isDeBruijn_11 (by decide) ?_
        obtain ⟨r13, hc, hf⟩ := bn_some hf
        try dsimp only at hf
        refine g_call0 (ws' := (w_0none q cI cJ cD)) (st1 := [.int r13]) hq [] [] [] (va_runS (As := [.int x0, .int (1 : Int32), .int (8 : Int32)]) (rest := []) ⟨hx, hb, hml, hown, hts⟩ (kX9_in l D cI cJ cD q hq N x0 (1 : Int32) (8 : Int32) r13 hc) (va_cwS 3 hts gX9_isDeBruijn_X9_in rfl rfl rfl (by decide +kernel) ⟨(Nat.le_of_ble_eq_true rfl), (Nat.le_of_ble_eq_true rfl)⟩) ⟨gP_blind, fun U hU hW => ⟨rfl, by rw [hU]; exact hP.sub (ws' := (w_0none q cI cJ cD)) [] rfl, gEv.warm hW hE⟩⟩ rfl rfl hl.1 rfl (lv_room (Nat.le_of_ble_eq_true rfl)) dX9_isDeBruijn_13 ⟨Nat.zero_le _, Nat.zero_le _⟩) hP hS (gSub rfl) rfl rfl rfl rfl rfl (fun H locs hP hS => ?_)
        refine lv_if_eq (tgt := 35) hx hb dX9_isDeBruijn_16 (by decide) (fun c_6 => ?_) (fun c_6 => ?_)
        · have hf := (if_pos c_6).symm.trans hf
          exact J35 x0 x1 x2 hf _ _ hP hS _ (lv_sub hl [0, 1, 2] rfl)
        · have hf := (if_neg c_6).symm.trans hf
          refine lv_iload_n hx hb dX9_isDeBruijn_19 rfl (lv_at hl 1 rfl) ?_
          refine lv_bipush (v := (6 : Int32)) hx hb dX9_isDeBruijn_20 (by decide) ?_
          refine lv_icmp_gt (tgt := 35) hx hb dX9_isDeBruijn_22 (by decide) (fun c_7 => ?_) (fun c_7 => ?_)
          · have hf := (if_pos c_7).symm.trans hf
            exact J35 x0 x1 x2 hf _ _ hP hS _ (lv_sub hl [0, 1, 2] rfl)
          · have hf := (if_neg c_7).symm.trans hf
            refine lv_iload_n hx hb dX9_isDeBruijn_25 rfl (lv_at hl 2 rfl) ?_
            refine lv_iload_n hx hb dX9_isDeBruijn_26 rfl (lv_at hl 0 rfl) ?_
            refine lv_imul hx hb dX9_isDeBruijn_27 ?_
            refine lv_istore_n (lv' := [(2, .int (x2 * x0)), (0, .int x0), (1, .int x1), (3, .int x3)]) hx hb dX9_isDeBruijn_28 rfl hl (by decide) rfl (fun ls hl => ?_)
            refine lv_iinc (v := (x3 + 1)) (lv' := [(3, .int (x3 + 1)), (2, .int (x2 * x0)), (0, .int x0), (1, .int x1)]) hx hb dX9_isDeBruijn_29 hl (k := 3) rfl rfl (by decide) rfl (fun ls hl => ?_)
            refine lv_goto (tgt := 4) hx hb dX9_isDeBruijn_32 (by decide) ?_
            exact ih4 x0 x1 (x2 * x0) (x3 + 1) hf _ _ hP hS _ (lv_sub hl [2, 3, 1, 0] rfl)
  unfold fX9_isDeBruijn at hf
  refine lv_iconst (v := (1 : Int32)) hx hb dX9_isDeBruijn_0 (by decide) ?_
  refine lv_istore_n (lv' := [(2, .int (1 : Int32)), (0, .int p0), (1, .int p1)]) hx hb dX9_isDeBruijn_1 rfl hl (by decide) rfl (fun ls hl => ?_)
  refine lv_iconst (v := (0 : Int32)) hx hb dX9_isDeBruijn_2 (by decide) ?_
  refine lv_istore_n (lv' := [(3, .int (0 : Int32)), (2, .int (1 : Int32)), (0, .int p0), (1, .int p1)]) hx hb dX9_isDeBruijn_3 rfl hl (by decide) rfl (fun ls hl => ?_)
  exact K4 N p0 p1 (1 : Int32) (0 : Int32) hf _ _ hP hS _ (lv_sub hl [2, 3, 1, 0] rfl)
set_option maxHeartbeats 4000000 in
set_option maxRecDepth 100000 in
theorem kX9_loadDeBruijn (l : Launch) (D : va_G) (cI cJ cD : ClassId) (q : Nat → Nat) (hq : gInj q) (N : Nat) (Mh : Int32) (Mn : Int32) (Mm : Int32) (Mt : (Nat → Int32)) (Mw : (Nat → Int32)) (Ml : (Nat → Int32)) (p1 : Int32) (p2 : Int32) (r0 : Int32) (Mh9 : Int32) (Mn9 : Int32) (Mt9 : (Nat → Int32)) (Mw9 : (Nat → Int32)) (Ml9 : (Nat → Int32)) (hf : fX9_loadDeBruijn N Mh Mn Mm Mt Mw Ml p1 p2 = some (r0, Mh9, Mn9, Mt9, Mw9, Ml9)) : Met l yX9_loadDeBruijn wsX9_loadDeBruijn rX9_loadDeBruijn (gP D cI cJ cD [.ref (q 14), .int p1, .int p2] (w_14_15_20_21 q cI cJ cD Mh Mn Mm Mt Mw Ml)) (gQ D (some (.int r0)) (w_14_15_20_21 q cI cJ cD Mh9 Mn9 Mm Mt9 Mw9 Ml9) (gA q [14, 15, 20, 21])) 0 0 (gA q [14, 15, 20, 21]) := by
  refine Met.ofW (cc := cX9_loadDeBruijn) (maxL := 5) (ret := (some .int)) (by decide +kernel) rfl ?_
  intro p e s m args below meth c s₁ B hml hv
  obtain ⟨rfl, hP, hE⟩ := hv
  have hx := B.exec
  have hb := B.bytes
  have hr := B.returns
  have hts := atoms_spec (ws := wsX9_loadDeBruijn) B.pre
  have hown : s.vm.findClass RX9 = some m.cls := findClass_of_methodNamed B.named
  have hlocks := B.notSynchronized
  have hS : va_S (gA q [14, 15, 20, 21]) s.heap s.heap [] := va_S.rf
  have hl := lv_entry ([.ref (q 14), .int p1, .int p2]) (n := 5) (Nat.le_of_ble_eq_true rfl)
  rw [lg_entry_eq]
  generalize (lg_sl ([.ref (q 14), .int p1, .int p2]) ++ List.replicate (5 - (lg_sl ([.ref (q 14), .int p1, .int p2])).length) Slot.unset).toArray = ls at hl ⊢
  have hl : lv_has ls 5 [(0, .ref (q 14)), (1, .int p1), (2, .int p2)] := hl
  have hDm : ∀ (z0 : Int32) (z1 : Int32) (z2 : Int32) (z3 : (Nat → Int32)) (z4 : (Nat → Int32)) (z5 : (Nat → Int32)), va_D (gA q [14, 15, 20, 21]) (w_14_15_20_21 q cI cJ cD z0 z1 z2 z3 z4 z5) := fun _ _ _ _ _ _ => gD_of hq [14, 15, 20, 21] rfl rfl rfl (fun k h => ⟨k, h, rfl⟩)
  have hk39 := hts (.fieldLink RX9 39 "LyndonTextModel" "length" "I") (by decide +kernel)
  have hk7 := hts (.fieldLink RX9 7 "LyndonTextModel" "text" "[I") (by decide +kernel)
  have hk28 := hts (.fieldLink RX9 28 "LyndonTextModel" "latest" "[I") (by decide +kernel)
  have huX9 : ∀ w ∈ u_ws RX9 TX9 11, w ∈ wsX9_loadDeBruijn := by decide +kernel
  have J91 : ∀ (Mh : Int32) (Mn : Int32) (Mt : (Nat → Int32)) (Mw : (Nat → Int32)) (Ml : (Nat → Int32)), fX9_loadDeBruijn_J91 N Mm Mh Mn Mt Mw Ml = some (r0, Mh9, Mn9, Mt9, Mw9, Ml9) → ∀ (H : Heap) (locs : List Loc), va_P D vwCl (w_14_15_20_21 q cI cJ cD Mh Mn Mm Mt Mw Ml) H → va_S (gA q [14, 15, 20, 21]) s.heap H locs → ∀ ls : Array Slot, lv_has ls 5 [(0, .ref (q 14))] → W p l e (headSpec wsX9_loadDeBruijn rX9_loadDeBruijn).room s m ([.ref (q 14), .int p1, .int p2] : List Value).toArray below meth c H locs 0 0 (MQ below (gQ D (some (.int r0)) (w_14_15_20_21 q cI cJ cD Mh9 Mn9 Mm Mt9 Mw9 Ml9) (gA q [14, 15, 20, 21])) ([.ref (q 14), .int p1, .int p2] : List Value).toArray s 0 0 (gA q [14, 15, 20, 21])) (F0 m 91 ls []) := by
    intro Mh Mn Mt Mw Ml hf H locs hP hS ls hl
    unfold fX9_loadDeBruijn_J91 at hf
    refine lv_aload_n hx hb dX9_loadDeBruijn_91 rfl (lv_at hl 0 rfl) ?_
    refine va_get (D := D) (ci := 7) (v := .int Mn) (C := RX9) (T := TX9) (N := 11) hx hb hts huX9 hown hE.1 hP 0 rfl rfl 1 (by decide) hk39 (fun _ h9 => h9) rfl dX9_loadDeBruijn_92 ?_
    cases hf
    exact W.iret hx hb hr (fun t ht hW => ⟨⟨rfl, by rw [ht]; exact hP⟩, hS.F ht⟩) hS.2.2 dX9_loadDeBruijn_95
  have K35 : ∀ (n35 : Nat) (Mh : Int32) (Mn : Int32) (Mt : (Nat → Int32)) (Mw : (Nat → Int32)) (Ml : (Nat → Int32)) (x1 : Int32) (x2 : Int32) (x3 : Int32), fX9_loadDeBruijn_H35 N Mm n35 Mh Mn Mt Mw Ml x1 x2 x3 = some (r0, Mh9, Mn9, Mt9, Mw9, Ml9) → ∀ (H : Heap) (locs : List Loc), va_P D vwCl (w_14_15_20_21 q cI cJ cD Mh Mn Mm Mt Mw Ml) H → va_S (gA q [14, 15, 20, 21]) s.heap H locs → ∀ ls : Array Slot, lv_has ls 5 [(0, .ref (q 14)), (1, .int x1), (2, .int x2), (3, .int x3)] → W p l e (headSpec wsX9_loadDeBruijn rX9_loadDeBruijn).room s m ([.ref (q 14), .int p1, .int p2] : List Value).toArray below meth c H locs 0 0 (MQ below (gQ D (some (.int r0)) (w_14_15_20_21 q cI cJ cD Mh9 Mn9 Mm Mt9 Mw9 Ml9) (gA q [14, 15, 20, 21])) ([.ref (q 14), .int p1, .int p2] : List Value).toArray s 0 0 (gA q [14, 15, 20, 21])) (F0 m 35 ls []) := by
    intro n35
    induction n35 with
    | zero =>
      intro Mh Mn Mt Mw Ml x1 x2 x3 hf
      exact nomatch (show (none : Option (Int32 × Int32 × Int32 × (Nat → Int32) × (Nat → Int32) × (Nat → Int32))) = some (r0, Mh9, Mn9, Mt9, Mw9, Ml9) from hf)
    | succ n35 ih35 =>
      have J80 : ∀ (Mh : Int32) (Mn : Int32) (Mt : (Nat → Int32)) (Mw : (Nat → Int32)) (Ml : (Nat → Int32)) (x1 : Int32) (x2 : Int32) (x3 : Int32), fX9_loadDeBruijn_J80 N Mm (fX9_loadDeBruijn_H35 N Mm n35) Mh Mn Mt Mw Ml x1 x2 x3 = some (r0, Mh9, Mn9, Mt9, Mw9, Ml9) → ∀ (H : Heap) (locs : List Loc), va_P D vwCl (w_14_15_20_21 q cI cJ cD Mh Mn Mm Mt Mw Ml) H → va_S (gA q [14, 15, 20, 21]) s.heap H locs → ∀ ls : Array Slot, lv_has ls 5 [(0, .ref (q 14)), (1, .int x1), (2, .int x2), (3, .int x3)] → W p l e (headSpec wsX9_loadDeBruijn rX9_loadDeBruijn).room s m ([.ref (q 14), .int p1, .int p2] : List Value).toArray below meth c H locs 0 0 (MQ below (gQ D (some (.int r0)) (w_14_15_20_21 q cI cJ cD Mh9 Mn9 Mm Mt9 Mw9 Ml9) (gA q [14, 15, 20, 21])) ([.ref (q 14), .int p1, .int p2] : List Value).toArray s 0 0 (gA q [14, 15, 20, 21])) (F0 m 80 ls []) := by
        intro Mh Mn Mt Mw Ml x1 x2 x3 hf H locs hP hS ls hl
        unfold fX9_loadDeBruijn_J80 at hf
        refine lv_aload_n hx hb dX9_loadDeBruijn_80 rfl (lv_at hl 0 rfl) ?_
        refine lv_iload_n hx hb dX9_loadDeBruijn_81 rfl (lv_at hl 1 rfl) ?_
        refine lv_iload_n hx hb dX9_loadDeBruijn_82 rfl (lv_at hl 2 rfl) ?_
        refine lv_iload_n hx hb dX9_loadDeBruijn_83 rfl (lv_at hl 3 rfl) ?_
        obtain ⟨⟨r84, Mw84, Ml84⟩, hc, hf⟩ := bn_some hf
        try dsimp only at hf
        refine g_call0 (ws' := (w_14_15_20_21 q cI cJ cD Mh Mn Mm Mt Mw84 Ml84)) (st1 := [.int r84]) hq [14, 15, 20, 21] [14, 20, 21] [.inl 0, .inr 1, .inl 1, .inl 2] (va_runV (As := [.int x1, .int x2, .int x3]) (rest := []) ⟨hx, hb, hml, hown, hts⟩ (kX9_nextLyndon l D cI cJ cD q hq N Mh Mn Mm Mw Ml x1 x2 x3 r84 Mw84 Ml84 hc) (cwV 3 hts gX9_loadDeBruijn_X9_nextLyndon rfl rfl rfl (by decide +kernel) ⟨(Nat.le_of_ble_eq_true rfl), (Nat.le_of_ble_eq_true rfl)⟩) ⟨gP_blind, va_recv hE.1 hP (ci := 7) (q0 := 0) rfl rfl, fun U hU hW => ⟨rfl, by rw [hU]; exact hP.sub (ws' := (w_14_20_21 q cI cJ cD Mh Mn Mm Mw Ml)) [0, 2, 3] rfl, gEv.warm hW hE⟩⟩ rfl rfl hl.1 rfl (lv_room (Nat.le_of_ble_eq_true rfl)) dX9_loadDeBruijn_84 ⟨Nat.zero_le _, Nat.zero_le _⟩) hP hS (gSub rfl) rfl rfl rfl rfl rfl (fun H locs hP hS => ?_)
        refine lv_istore_n (lv' := [(3, .int r84), (0, .ref (q 14)), (1, .int x1), (2, .int x2)]) hx hb dX9_loadDeBruijn_87 rfl hl (by decide) rfl (fun ls hl => ?_)
        refine lv_goto (tgt := 35) hx hb dX9_loadDeBruijn_88 (by decide) ?_
        exact ih35 Mh Mn Mt Mw84 Ml84 x1 x2 r84 hf _ _ hP hS _ (lv_sub hl [1, 2, 3, 0] rfl)
      have K42 : ∀ (n42 : Nat) (Mh : Int32) (Mn : Int32) (Mt : (Nat → Int32)) (Mw : (Nat → Int32)) (Ml : (Nat → Int32)) (x1 : Int32) (x2 : Int32) (x3 : Int32) (x4 : Int32), fX9_loadDeBruijn_H42 N Mm (fX9_loadDeBruijn_H35 N Mm n35) n42 Mh Mn Mt Mw Ml x1 x2 x3 x4 = some (r0, Mh9, Mn9, Mt9, Mw9, Ml9) → ∀ (H : Heap) (locs : List Loc), va_P D vwCl (w_14_15_20_21 q cI cJ cD Mh Mn Mm Mt Mw Ml) H → va_S (gA q [14, 15, 20, 21]) s.heap H locs → ∀ ls : Array Slot, lv_has ls 5 [(0, .ref (q 14)), (1, .int x1), (2, .int x2), (3, .int x3), (4, .int x4)] → W p l e (headSpec wsX9_loadDeBruijn rX9_loadDeBruijn).room s m ([.ref (q 14), .int p1, .int p2] : List Value).toArray below meth c H locs 0 0 (MQ below (gQ D (some (.int r0)) (w_14_15_20_21 q cI cJ cD Mh9 Mn9 Mm Mt9 Mw9 Ml9) (gA q [14, 15, 20, 21])) ([.ref (q 14), .int p1, .int p2] : List Value).toArray s 0 0 (gA q [14, 15, 20, 21])) (F0 m 42 ls []) := by
        intro n42
        induction n42 with
        | zero =>
          intro Mh Mn Mt Mw Ml x1 x2 x3 x4 hf
          exact nomatch (show (none : Option (Int32 × Int32 × Int32 × (Nat → Int32) × (Nat → Int32) × (Nat → Int32))) = some (r0, Mh9, Mn9, Mt9, Mw9, Ml9) from hf)
        | succ n42 ih42 =>
          intro Mh Mn Mt Mw Ml x1 x2 x3 x4 hf H locs hP hS ls hl
          have hf : fX9_loadDeBruijn_B42 N Mm (fX9_loadDeBruijn_H35 N Mm n35) (fX9_loadDeBruijn_H42 N Mm (fX9_loadDeBruijn_H35 N Mm n35) n42) Mh Mn Mt Mw Ml x1 x2 x3 x4 = some (r0, Mh9, Mn9, Mt9, Mw9, Ml9) := hf
          unfold fX9_loadDeBruijn_B42 at hf
          refine lv_iload hx hb dX9_loadDeBruijn_42 (lv_at hl 4 rfl) ?_
          refine lv_iload_n hx hb dX9_loadDeBruijn_44 rfl (lv_at hl 3 rfl) ?_
          refine lv_icmp_ge (tgt := 80) hx hb dX9_loadDeBruijn_45 (by decide) (fun c_1 => ?_) (fun c_1 => ?_)
          · have hf := (if_pos c_1).symm.trans hf
            exact J80 Mh Mn Mt Mw Ml x1 x2 x3 hf _ _ hP hS _ (lv_sub hl [0, 1, 2, 3] rfl)
          · have hf := (if_neg c_1).symm.trans hf
            refine lv_aload_n hx hb dX9_loadDeBruijn_48 rfl (lv_at hl 0 rfl) ?_
            refine va_get (D := D) (ci := 7) (v := .ref (q 15)) (C := RX9) (T := TX9) (N := 11) hx hb hts huX9 hown hE.1 hP 0 rfl rfl 2 (by decide) hk7 (fun _ h9 => h9) rfl dX9_loadDeBruijn_49 ?_
            refine lv_aload_n hx hb dX9_loadDeBruijn_52 rfl (lv_at hl 0 rfl) ?_
            refine va_get (D := D) (ci := 7) (v := .int Mn) (C := RX9) (T := TX9) (N := 11) hx hb hts huX9 hown hE.1 hP 0 rfl rfl 1 (by decide) hk39 (fun _ h9 => h9) rfl dX9_loadDeBruijn_53 ?_
            refine lv_aload_n hx hb dX9_loadDeBruijn_56 rfl (lv_at hl 0 rfl) ?_
            refine va_get (D := D) (ci := 7) (v := .ref (q 21)) (C := RX9) (T := TX9) (N := 11) hx hb hts huX9 hown hE.1 hP 0 rfl rfl 9 (by decide) hk28 (fun _ h9 => h9) rfl dX9_loadDeBruijn_57 ?_
            refine lv_iload hx hb dX9_loadDeBruijn_60 (lv_at hl 4 rfl) ?_
            obtain ⟨g_2, hf⟩ := gd_some hf
            refine va_iald hx hb hE.1 hP 3 0 rfl rfl (inb_in g_2) dX9_loadDeBruijn_62 ?_
            obtain ⟨g_3, hf⟩ := gd_some hf
            refine va_iast hx hb hE.1 hP (hDm Mh Mn Mm Mt Mw Ml) hS 1 0 rfl rfl (inb_in g_3) dX9_loadDeBruijn_63 (fun H locs hP _ hS => ?_)
            have hP : va_P D vwCl (w_14_15_20_21 q cI cJ cD Mh Mn Mm (upd Mt (Mn).toNatClampNeg (Ml (x4).toNatClampNeg)) Mw Ml) H := hP
            refine lv_aload_n hx hb dX9_loadDeBruijn_64 rfl (lv_at hl 0 rfl) ?_
            refine lv_dup hx hb dX9_loadDeBruijn_65 rfl ?_
            refine va_get (D := D) (ci := 7) (v := .int Mn) (C := RX9) (T := TX9) (N := 11) hx hb hts huX9 hown hE.1 hP 0 rfl rfl 1 (by decide) hk39 (fun _ h9 => h9) rfl dX9_loadDeBruijn_66 ?_
            refine lv_iconst (v := (1 : Int32)) hx hb dX9_loadDeBruijn_69 (by decide) ?_
            refine lv_iadd hx hb dX9_loadDeBruijn_70 ?_
            refine va_put (D := D) (ci := 7) (v := .int (Mn + (1 : Int32))) (ty := .int) (C := RX9) (T := TX9) (N := 11) hx hb hts huX9 tyX9 tyX9_ok nmX9 hown hE.1 hP (hDm Mh Mn Mm (upd Mt (Mn).toNatClampNeg (Ml (x4).toNatClampNeg)) Mw Ml) hS 0 rfl rfl 1 (by decide) hk39 (fun _ h9 => h9) rfl (by decide +kernel) rfl rfl (Nat.le_of_ble_eq_true rfl) dX9_loadDeBruijn_71 (fun H locs hP _ hS => ?_)
            have hP : va_P D vwCl (w_14_15_20_21 q cI cJ cD Mh (Mn + (1 : Int32)) Mm (upd Mt (Mn).toNatClampNeg (Ml (x4).toNatClampNeg)) Mw Ml) H := hP
            refine lv_iinc (v := (x4 + 1)) (lv' := [(4, .int (x4 + 1)), (0, .ref (q 14)), (1, .int x1), (2, .int x2), (3, .int x3)]) hx hb dX9_loadDeBruijn_74 hl (k := 4) rfl rfl (by decide) rfl (fun ls hl => ?_)
            refine lv_goto (tgt := 42) hx hb dX9_loadDeBruijn_77 (by decide) ?_
            exact ih42 Mh (Mn + (1 : Int32)) (upd Mt (Mn).toNatClampNeg (Ml (x4).toNatClampNeg)) Mw Ml x1 x2 x3 (x4 + 1) hf _ _ hP hS _ (lv_sub hl [1, 2, 3, 4, 0] rfl)
      intro Mh Mn Mt Mw Ml x1 x2 x3 hf H locs hP hS ls hl
      have hf : fX9_loadDeBruijn_B35 N Mm (fX9_loadDeBruijn_H35 N Mm n35) Mh Mn Mt Mw Ml x1 x2 x3 = some (r0, Mh9, Mn9, Mt9, Mw9, Ml9) := hf
      unfold fX9_loadDeBruijn_B35 at hf
      refine lv_iload_n hx hb dX9_loadDeBruijn_35 rfl (lv_at hl 3 rfl) ?_
      refine lv_if_le (tgt := 91) hx hb dX9_loadDeBruijn_36 (by decide) (fun c_4 => ?_) (fun c_4 => ?_)
      · have hf := (if_pos c_4).symm.trans hf
        exact J91 Mh Mn Mt Mw Ml hf _ _ hP hS _ (lv_sub hl [0] rfl)
      · have hf := (if_neg c_4).symm.trans hf
        refine lv_iconst (v := (0 : Int32)) hx hb dX9_loadDeBruijn_39 (by decide) ?_
        refine lv_istore (lv' := [(4, .int (0 : Int32)), (0, .ref (q 14)), (1, .int x1), (2, .int x2), (3, .int x3)]) hx hb dX9_loadDeBruijn_40 hl (by decide) rfl (fun ls hl => ?_)
        exact K42 N Mh Mn Mt Mw Ml x1 x2 x3 (0 : Int32) hf _ _ hP hS _ (lv_sub hl [1, 2, 3, 4, 0] rfl)
  have J14 : ∀ (Mh : Int32) (Mn : Int32) (Mt : (Nat → Int32)) (Mw : (Nat → Int32)) (Ml : (Nat → Int32)) (x1 : Int32) (x2 : Int32) (y1 : Int32), fX9_loadDeBruijn_J14 N Mm Mh Mn Mt Mw Ml x1 x2 y1 = some (r0, Mh9, Mn9, Mt9, Mw9, Ml9) → ∀ (H : Heap) (locs : List Loc), va_P D vwCl (w_14_15_20_21 q cI cJ cD Mh Mn Mm Mt Mw Ml) H → va_S (gA q [14, 15, 20, 21]) s.heap H locs → ∀ ls : Array Slot, lv_has ls 5 [(0, .ref (q 14)), (1, .int x1), (2, .int x2)] → W p l e (headSpec wsX9_loadDeBruijn rX9_loadDeBruijn).room s m ([.ref (q 14), .int p1, .int p2] : List Value).toArray below meth c H locs 0 0 (MQ below (gQ D (some (.int r0)) (w_14_15_20_21 q cI cJ cD Mh9 Mn9 Mm Mt9 Mw9 Ml9) (gA q [14, 15, 20, 21])) ([.ref (q 14), .int p1, .int p2] : List Value).toArray s 0 0 (gA q [14, 15, 20, 21])) (F0 m 14 ls [.int y1, .ref (q 14)]) := by
    intro Mh Mn Mt Mw Ml x1 x2 y1 hf H locs hP hS ls hl
    unfold fX9_loadDeBruijn_J14 at hf
    obtain ⟨⟨r14, Mh14⟩, hc, hf⟩ := bn_some hf
    try dsimp only at hf
    refine g_call0 (ws' := (w_14_15_20_21 q cI cJ cD Mh14 Mn Mm Mt Mw Ml)) (st1 := [.int r14]) hq [14, 15, 20, 21] [14] [.inl 0, .inr 1, .inr 2, .inr 3] (va_runV (As := [.int y1]) (rest := []) ⟨hx, hb, hml, hown, hts⟩ (kX9_goesWell l D cI cJ cD q hq N Mh Mn Mm y1 r14 Mh14 hc) (cwV 1 hts gX9_loadDeBruijn_X9_goesWell rfl rfl rfl (by decide +kernel) ⟨(Nat.le_of_ble_eq_true rfl), (Nat.le_of_ble_eq_true rfl)⟩) ⟨gP_blind, va_recv hE.1 hP (ci := 7) (q0 := 0) rfl rfl, fun U hU hW => ⟨rfl, by rw [hU]; exact hP.sub (ws' := (w_14 q cI cJ cD Mh Mn Mm)) [0] rfl, gEv.warm hW hE⟩⟩ rfl rfl hl.1 rfl (lv_room (Nat.le_of_ble_eq_true rfl)) dX9_loadDeBruijn_14 ⟨Nat.zero_le _, Nat.zero_le _⟩) hP hS (gSub rfl) rfl rfl rfl rfl rfl (fun H locs hP hS => ?_)
    refine lv_if_ne (tgt := 22) hx hb dX9_loadDeBruijn_17 (by decide) (fun c_5 => ?_) (fun c_5 => ?_)
    · have hf := (if_neg c_5).symm.trans hf
      refine lv_aload_n hx hb dX9_loadDeBruijn_22 rfl (lv_at hl 0 rfl) ?_
      refine lv_iconst (v := (0 : Int32)) hx hb dX9_loadDeBruijn_23 (by decide) ?_
      refine va_put (D := D) (ci := 7) (v := .int (0 : Int32)) (ty := .int) (C := RX9) (T := TX9) (N := 11) hx hb hts huX9 tyX9 tyX9_ok nmX9 hown hE.1 hP (hDm Mh14 Mn Mm Mt Mw Ml) hS 0 rfl rfl 1 (by decide) hk39 (fun _ h9 => h9) rfl (by decide +kernel) rfl rfl (Nat.le_of_ble_eq_true rfl) dX9_loadDeBruijn_24 (fun H locs hP _ hS => ?_)
      have hP : va_P D vwCl (w_14_15_20_21 q cI cJ cD Mh14 (0 : Int32) Mm Mt Mw Ml) H := hP
      refine lv_aload_n hx hb dX9_loadDeBruijn_27 rfl (lv_at hl 0 rfl) ?_
      refine lv_iload_n hx hb dX9_loadDeBruijn_28 rfl (lv_at hl 1 rfl) ?_
      refine lv_iload_n hx hb dX9_loadDeBruijn_29 rfl (lv_at hl 2 rfl) ?_
      refine lv_iconst (v := (0 : Int32)) hx hb dX9_loadDeBruijn_30 (by decide) ?_
      obtain ⟨⟨r31, Mw31, Ml31⟩, hc, hf⟩ := bn_some hf
      try dsimp only at hf
      refine g_call0 (ws' := (w_14_15_20_21 q cI cJ cD Mh14 (0 : Int32) Mm Mt Mw31 Ml31)) (st1 := [.int r31]) hq [14, 15, 20, 21] [14, 20, 21] [.inl 0, .inr 1, .inl 1, .inl 2] (va_runV (As := [.int x1, .int x2, .int (0 : Int32)]) (rest := []) ⟨hx, hb, hml, hown, hts⟩ (kX9_nextLyndon l D cI cJ cD q hq N Mh14 (0 : Int32) Mm Mw Ml x1 x2 (0 : Int32) r31 Mw31 Ml31 hc) (cwV 3 hts gX9_loadDeBruijn_X9_nextLyndon rfl rfl rfl (by decide +kernel) ⟨(Nat.le_of_ble_eq_true rfl), (Nat.le_of_ble_eq_true rfl)⟩) ⟨gP_blind, va_recv hE.1 hP (ci := 7) (q0 := 0) rfl rfl, fun U hU hW => ⟨rfl, by rw [hU]; exact hP.sub (ws' := (w_14_20_21 q cI cJ cD Mh14 (0 : Int32) Mm Mw Ml)) [0, 2, 3] rfl, gEv.warm hW hE⟩⟩ rfl rfl hl.1 rfl (lv_room (Nat.le_of_ble_eq_true rfl)) dX9_loadDeBruijn_31 ⟨Nat.zero_le _, Nat.zero_le _⟩) hP hS (gSub rfl) rfl rfl rfl rfl rfl (fun H locs hP hS => ?_)
      refine lv_istore_n (lv' := [(3, .int r31), (0, .ref (q 14)), (1, .int x1), (2, .int x2)]) hx hb dX9_loadDeBruijn_34 rfl hl (by decide) rfl (fun ls hl => ?_)
      exact K35 N Mh14 (0 : Int32) Mt Mw31 Ml31 x1 x2 r31 hf _ _ hP hS _ (lv_sub hl [1, 2, 3, 0] rfl)
    · have hf := (if_pos c_5).symm.trans hf
      refine lv_iconst (v := (0 : Int32)) hx hb dX9_loadDeBruijn_20 (by decide) ?_
      cases hf
      exact W.iret hx hb hr (fun t ht hW => ⟨⟨rfl, by rw [ht]; exact hP⟩, hS.F ht⟩) hS.2.2 dX9_loadDeBruijn_21
  unfold fX9_loadDeBruijn at hf
  refine lv_aload_n hx hb dX9_loadDeBruijn_0 rfl (lv_at hl 0 rfl) ?_
  refine lv_iload_n hx hb dX9_loadDeBruijn_1 rfl (lv_at hl 1 rfl) ?_
  refine lv_iload_n hx hb dX9_loadDeBruijn_2 rfl (lv_at hl 2 rfl) ?_
  obtain ⟨r3, hc, hf⟩ := bn_some hf
  try dsimp only at hf
  refine g_call0 (ws' := (w_14_15_20_21 q cI cJ cD Mh Mn Mm Mt Mw Ml)) (st1 := [.int r3, .ref (q 14)]) hq [14, 15, 20, 21] [] [.inr 0, .inr 1, .inr 2, .inr 3] (va_runS (As := [.int p1, .int p2]) (rest := [.ref (q 14)]) ⟨hx, hb, hml, hown, hts⟩ (kX9_isDeBruijn l D cI cJ cD q hq N p1 p2 r3 hc) (va_cwS 2 hts gX9_loadDeBruijn_X9_isDeBruijn rfl rfl rfl (by decide +kernel) ⟨(Nat.le_of_ble_eq_true rfl), (Nat.le_of_ble_eq_true rfl)⟩) ⟨gP_blind, fun U hU hW => ⟨rfl, by rw [hU]; exact hP.sub (ws' := (w_0none q cI cJ cD)) [] rfl, gEv.warm hW hE⟩⟩ rfl rfl hl.1 rfl (lv_room (Nat.le_of_ble_eq_true rfl)) dX9_loadDeBruijn_3 ⟨Nat.zero_le _, Nat.zero_le _⟩) hP hS (gSub rfl) rfl rfl rfl rfl rfl (fun H locs hP hS => ?_)
  refine lv_if_eq (tgt := 13) hx hb dX9_loadDeBruijn_6 (by decide) (fun c_6 => ?_) (fun c_6 => ?_)
  · have hf := (if_pos c_6).symm.trans hf
    refine lv_iconst (v := (1 : Int32)) hx hb dX9_loadDeBruijn_13 (by decide) ?_
    exact J14 Mh Mn Mt Mw Ml p1 p2 (1 : Int32) hf _ _ hP hS _ (lv_sub hl [0, 1, 2] rfl)
  · have hf := (if_neg c_6).symm.trans hf
    refine lv_iconst (v := (0 : Int32)) hx hb dX9_loadDeBruijn_9 (by decide) ?_
    refine lv_goto (tgt := 14) hx hb dX9_loadDeBruijn_10 (by decide) ?_
    exact J14 Mh Mn Mt Mw Ml p1 p2 (0 : Int32) hf _ _ hP hS _ (lv_sub hl [0, 1, 2] rfl)
set_option maxHeartbeats 4000000 in
set_option maxRecDepth 100000 in
theorem kX9_necklaceWith (l : Launch) (D : va_G) (cI cJ cD : ClassId) (q : Nat → Nat) (hq : gInj q) (N : Nat) (Mh : Int32) (Mn : Int32) (Mm : Int32) (Mw : (Nat → Int32)) (p1 : Int32) (p2 : Int32) (p3 : Int32) (r0 : Int32) (Mw9 : (Nat → Int32)) (hf : fX9_necklaceWith N Mh Mn Mm Mw p1 p2 p3 = some (r0, Mw9)) : Met l yX9_necklaceWith wsX9_necklaceWith rX9_necklaceWith (gP D cI cJ cD [.ref (q 14), .int p1, .int p2, .int p3] (w_14_20 q cI cJ cD Mh Mn Mm Mw)) (gQ D (some (.int r0)) (w_14_20 q cI cJ cD Mh Mn Mm Mw9) (gA q [14, 20])) 0 0 (gA q [14, 20]) := by
  refine Met.ofW (cc := cX9_necklaceWith) (maxL := 6) (ret := (some .int)) (by decide +kernel) rfl ?_
  intro p e s m args below meth c s₁ B hml hv
  obtain ⟨rfl, hP, hE⟩ := hv
  have hx := B.exec
  have hb := B.bytes
  have hr := B.returns
  have hts := atoms_spec (ws := wsX9_necklaceWith) B.pre
  have hown : s.vm.findClass RX9 = some m.cls := findClass_of_methodNamed B.named
  have hlocks := B.notSynchronized
  have hS : va_S (gA q [14, 20]) s.heap s.heap [] := va_S.rf
  have hl := lv_entry ([.ref (q 14), .int p1, .int p2, .int p3]) (n := 6) (Nat.le_of_ble_eq_true rfl)
  rw [lg_entry_eq]
  generalize (lg_sl ([.ref (q 14), .int p1, .int p2, .int p3]) ++ List.replicate (6 - (lg_sl ([.ref (q 14), .int p1, .int p2, .int p3])).length) Slot.unset).toArray = ls at hl ⊢
  have hl : lv_has ls 6 [(0, .ref (q 14)), (1, .int p1), (2, .int p2), (3, .int p3)] := hl
  have J49 : ∀ (Mw : (Nat → Int32)), fX9_necklaceWith_J49 N Mh Mn Mm Mw = some (r0, Mw9) → ∀ (H : Heap) (locs : List Loc), va_P D vwCl (w_14_20 q cI cJ cD Mh Mn Mm Mw) H → va_S (gA q [14, 20]) s.heap H locs → ∀ ls : Array Slot, lv_has ls 6 [] → W p l e (headSpec wsX9_necklaceWith rX9_necklaceWith).room s m ([.ref (q 14), .int p1, .int p2, .int p3] : List Value).toArray below meth c H locs 0 0 (MQ below (gQ D (some (.int r0)) (w_14_20 q cI cJ cD Mh Mn Mm Mw9) (gA q [14, 20])) ([.ref (q 14), .int p1, .int p2, .int p3] : List Value).toArray s 0 0 (gA q [14, 20])) (F0 m 49 ls []) := by
    intro Mw hf H locs hP hS ls hl
    unfold fX9_necklaceWith_J49 at hf
    refine lv_iconst (v := (-1 : Int32)) hx hb dX9_necklaceWith_49 (by decide) ?_
    cases hf
    exact W.iret hx hb hr (fun t ht hW => ⟨⟨rfl, by rw [ht]; exact hP⟩, hS.F ht⟩) hS.2.2 dX9_necklaceWith_50
  have J37 : ∀ (Mw : (Nat → Int32)) (x5 : Int32), fX9_necklaceWith_J37 N Mh Mn Mm Mw x5 = some (r0, Mw9) → ∀ (H : Heap) (locs : List Loc), va_P D vwCl (w_14_20 q cI cJ cD Mh Mn Mm Mw) H → va_S (gA q [14, 20]) s.heap H locs → ∀ ls : Array Slot, lv_has ls 6 [(5, .int x5)] → W p l e (headSpec wsX9_necklaceWith rX9_necklaceWith).room s m ([.ref (q 14), .int p1, .int p2, .int p3] : List Value).toArray below meth c H locs 0 0 (MQ below (gQ D (some (.int r0)) (w_14_20 q cI cJ cD Mh Mn Mm Mw9) (gA q [14, 20])) ([.ref (q 14), .int p1, .int p2, .int p3] : List Value).toArray s 0 0 (gA q [14, 20])) (F0 m 37 ls []) := by
    intro Mw x5 hf H locs hP hS ls hl
    unfold fX9_necklaceWith_J37 at hf
    refine lv_iload hx hb dX9_necklaceWith_37 (lv_at hl 0 rfl) ?_
    cases hf
    exact W.iret hx hb hr (fun t ht hW => ⟨⟨rfl, by rw [ht]; exact hP⟩, hS.F ht⟩) hS.2.2 dX9_necklaceWith_39
  have K6 : ∀ (n6 : Nat) (Mw : (Nat → Int32)) (x1 : Int32) (x2 : Int32) (x4 : Int32) (x5 : Int32), fX9_necklaceWith_H6 N Mh Mn Mm n6 Mw x1 x2 x4 x5 = some (r0, Mw9) → ∀ (H : Heap) (locs : List Loc), va_P D vwCl (w_14_20 q cI cJ cD Mh Mn Mm Mw) H → va_S (gA q [14, 20]) s.heap H locs → ∀ ls : Array Slot, lv_has ls 6 [(0, .ref (q 14)), (1, .int x1), (2, .int x2), (4, .int x4), (5, .int x5)] → W p l e (headSpec wsX9_necklaceWith rX9_necklaceWith).room s m ([.ref (q 14), .int p1, .int p2, .int p3] : List Value).toArray below meth c H locs 0 0 (MQ below (gQ D (some (.int r0)) (w_14_20 q cI cJ cD Mh Mn Mm Mw9) (gA q [14, 20])) ([.ref (q 14), .int p1, .int p2, .int p3] : List Value).toArray s 0 0 (gA q [14, 20])) (F0 m 6 ls []) := by
    intro n6
    induction n6 with
    | zero =>
      intro Mw x1 x2 x4 x5 hf
      exact nomatch (show (none : Option (Int32 × (Nat → Int32))) = some (r0, Mw9) from hf)
    | succ n6 ih6 =>
      have J43 : ∀ (Mw : (Nat → Int32)) (x1 : Int32) (x2 : Int32) (x4 : Int32) (x5 : Int32), fX9_necklaceWith_J43 N Mh Mn Mm (fX9_necklaceWith_H6 N Mh Mn Mm n6) Mw x1 x2 x4 x5 = some (r0, Mw9) → ∀ (H : Heap) (locs : List Loc), va_P D vwCl (w_14_20 q cI cJ cD Mh Mn Mm Mw) H → va_S (gA q [14, 20]) s.heap H locs → ∀ ls : Array Slot, lv_has ls 6 [(0, .ref (q 14)), (1, .int x1), (2, .int x2), (4, .int x4), (5, .int x5)] → W p l e (headSpec wsX9_necklaceWith rX9_necklaceWith).room s m ([.ref (q 14), .int p1, .int p2, .int p3] : List Value).toArray below meth c H locs 0 0 (MQ below (gQ D (some (.int r0)) (w_14_20 q cI cJ cD Mh Mn Mm Mw9) (gA q [14, 20])) ([.ref (q 14), .int p1, .int p2, .int p3] : List Value).toArray s 0 0 (gA q [14, 20])) (F0 m 43 ls []) := by
        intro Mw x1 x2 x4 x5 hf H locs hP hS ls hl
        unfold fX9_necklaceWith_J43 at hf
        refine lv_iinc (v := (x5 + 1)) (lv' := [(5, .int (x5 + 1)), (0, .ref (q 14)), (1, .int x1), (2, .int x2), (4, .int x4)]) hx hb dX9_necklaceWith_43 hl (k := 4) rfl rfl (by decide) rfl (fun ls hl => ?_)
        refine lv_goto (tgt := 6) hx hb dX9_necklaceWith_46 (by decide) ?_
        exact ih6 Mw x1 x2 x4 (x5 + 1) hf _ _ hP hS _ (lv_sub hl [1, 2, 3, 4, 0] rfl)
      intro Mw x1 x2 x4 x5 hf H locs hP hS ls hl
      have hf : fX9_necklaceWith_B6 N Mh Mn Mm (fX9_necklaceWith_H6 N Mh Mn Mm n6) Mw x1 x2 x4 x5 = some (r0, Mw9) := hf
      unfold fX9_necklaceWith_B6 at hf
      refine lv_iload hx hb dX9_necklaceWith_6 (lv_at hl 4 rfl) ?_
      refine lv_iload_n hx hb dX9_necklaceWith_8 rfl (lv_at hl 1 rfl) ?_
      refine lv_iload_n hx hb dX9_necklaceWith_9 rfl (lv_at hl 2 rfl) ?_
      obtain ⟨r10, hc, hf⟩ := bn_some hf
      try dsimp only at hf
      refine g_call0 (ws' := (w_14_20 q cI cJ cD Mh Mn Mm Mw)) (st1 := [.int r10, .int x5]) hq [14, 20] [] [.inr 0, .inr 1] (va_runS (As := [.int x1, .int x2]) (rest := [.int x5]) ⟨hx, hb, hml, hown, hts⟩ (kX9_power l D cI cJ cD q hq N x1 x2 r10 hc) (va_cwS 2 hts gX9_necklaceWith_X9_power rfl rfl rfl (by decide +kernel) ⟨(Nat.le_of_ble_eq_true rfl), (Nat.le_of_ble_eq_true rfl)⟩) ⟨gP_blind, fun U hU hW => ⟨rfl, by rw [hU]; exact hP.sub (ws' := (w_0none q cI cJ cD)) [] rfl, gEv.warm hW hE⟩⟩ rfl rfl hl.1 rfl (lv_room (Nat.le_of_ble_eq_true rfl)) dX9_necklaceWith_10 ⟨Nat.zero_le _, Nat.zero_le _⟩) hP hS (gSub rfl) rfl rfl rfl rfl rfl (fun H locs hP hS => ?_)
      refine lv_icmp_ge (tgt := 49) hx hb dX9_necklaceWith_13 (by decide) (fun c_1 => ?_) (fun c_1 => ?_)
      · have hf := (if_pos c_1).symm.trans hf
        exact J49 Mw hf _ _ hP hS _ (lv_sub hl [] rfl)
      · have hf := (if_neg c_1).symm.trans hf
        refine lv_aload_n hx hb dX9_necklaceWith_16 rfl (lv_at hl 0 rfl) ?_
        refine lv_iload hx hb dX9_necklaceWith_17 (lv_at hl 4 rfl) ?_
        refine lv_iload_n hx hb dX9_necklaceWith_19 rfl (lv_at hl 1 rfl) ?_
        refine lv_iload_n hx hb dX9_necklaceWith_20 rfl (lv_at hl 2 rfl) ?_
        obtain ⟨Mw21, hc, hf⟩ := bn_some hf
        try dsimp only at hf
        refine g_call0 (ws' := (w_14_20 q cI cJ cD Mh Mn Mm Mw21)) (st1 := []) hq [14, 20] [14, 20] [.inl 0, .inl 1] (va_runV (As := [.int x5, .int x1, .int x2]) (rest := []) ⟨hx, hb, hml, hown, hts⟩ (kX9_layWord l D cI cJ cD q hq N Mh Mn Mm Mw x5 x1 x2 Mw21 hc) (cwV 3 hts gX9_necklaceWith_X9_layWord rfl rfl rfl (by decide +kernel) ⟨(Nat.le_of_ble_eq_true rfl), (Nat.le_of_ble_eq_true rfl)⟩) ⟨gP_blind, va_recv hE.1 hP (ci := 7) (q0 := 0) rfl rfl, fun U hU hW => ⟨rfl, by rw [hU]; exact hP.sub (ws' := (w_14_20 q cI cJ cD Mh Mn Mm Mw)) [0, 1] rfl, gEv.warm hW hE⟩⟩ rfl rfl hl.1 rfl (lv_room (Nat.le_of_ble_eq_true rfl)) dX9_necklaceWith_21 ⟨Nat.zero_le _, Nat.zero_le _⟩) hP hS (gSub rfl) rfl rfl rfl rfl rfl (fun H locs hP hS => ?_)
        refine lv_aload_n hx hb dX9_necklaceWith_24 rfl (lv_at hl 0 rfl) ?_
        refine lv_iload_n hx hb dX9_necklaceWith_25 rfl (lv_at hl 2 rfl) ?_
        obtain ⟨r26, hc, hf⟩ := bn_some hf
        try dsimp only at hf
        refine g_call0 (ws' := (w_14_20 q cI cJ cD Mh Mn Mm Mw21)) (st1 := [.int r26]) hq [14, 20] [14, 20] [.inl 0, .inl 1] (va_runV (As := [.int x2]) (rest := []) ⟨hx, hb, hml, hown, hts⟩ (kX9_isNecklaceWord l D cI cJ cD q hq N Mh Mn Mm Mw21 x2 r26 hc) (cwV 1 hts gX9_necklaceWith_X9_isNecklaceWord rfl rfl rfl (by decide +kernel) ⟨(Nat.le_of_ble_eq_true rfl), (Nat.le_of_ble_eq_true rfl)⟩) ⟨gP_blind, va_recv hE.1 hP (ci := 7) (q0 := 0) rfl rfl, fun U hU hW => ⟨rfl, by rw [hU]; exact hP.sub (ws' := (w_14_20 q cI cJ cD Mh Mn Mm Mw21)) [0, 1] rfl, gEv.warm hW hE⟩⟩ rfl rfl hl.1 rfl (lv_room (Nat.le_of_ble_eq_true rfl)) dX9_necklaceWith_26 ⟨Nat.zero_le _, Nat.zero_le _⟩) hP hS (gSub rfl) rfl rfl rfl rfl rfl (fun H locs hP hS => ?_)
        refine lv_if_eq (tgt := 43) hx hb dX9_necklaceWith_29 (by decide) (fun c_2 => ?_) (fun c_2 => ?_)
        · have hf := (if_pos c_2).symm.trans hf
          exact J43 Mw21 x1 x2 x4 x5 hf _ _ hP hS _ (lv_sub hl [0, 1, 2, 3, 4] rfl)
        · have hf := (if_neg c_2).symm.trans hf
          refine lv_iload hx hb dX9_necklaceWith_32 (lv_at hl 3 rfl) ?_
          refine lv_if_ne (tgt := 40) hx hb dX9_necklaceWith_34 (by decide) (fun c_3 => ?_) (fun c_3 => ?_)
          · have hf := (if_neg c_3).symm.trans hf
            refine lv_iinc (v := (x4 + (-1 : Int32))) (lv' := [(4, .int (x4 + (-1 : Int32))), (0, .ref (q 14)), (1, .int x1), (2, .int x2), (5, .int x5)]) hx hb dX9_necklaceWith_40 hl (k := 3) rfl rfl (by decide) rfl (fun ls hl => ?_)
            exact J43 Mw21 x1 x2 (x4 + (-1 : Int32)) x5 hf _ _ hP hS _ (lv_sub hl [1, 2, 3, 0, 4] rfl)
          · have hf := (if_pos c_3).symm.trans hf
            exact J37 Mw21 x5 hf _ _ hP hS _ (lv_sub hl [4] rfl)
  unfold fX9_necklaceWith at hf
  refine lv_iload_n hx hb dX9_necklaceWith_0 rfl (lv_at hl 3 rfl) ?_
  refine lv_istore (lv' := [(4, .int p3), (0, .ref (q 14)), (1, .int p1), (2, .int p2), (3, .int p3)]) hx hb dX9_necklaceWith_1 hl (by decide) rfl (fun ls hl => ?_)
  refine lv_iconst (v := (0 : Int32)) hx hb dX9_necklaceWith_3 (by decide) ?_
  refine lv_istore (lv' := [(5, .int (0 : Int32)), (4, .int p3), (0, .ref (q 14)), (1, .int p1), (2, .int p2), (3, .int p3)]) hx hb dX9_necklaceWith_4 hl (by decide) rfl (fun ls hl => ?_)
  exact K6 N Mw p1 p2 p3 (0 : Int32) hf _ _ hP hS _ (lv_sub hl [2, 3, 4, 1, 0] rfl)
set_option maxHeartbeats 4000000 in
set_option maxRecDepth 100000 in
theorem kX9_hasPeriod (l : Launch) (D : va_G) (cI cJ cD : ClassId) (q : Nat → Nat) (hq : gInj q) (N : Nat) (Mh : Int32) (Mn : Int32) (Mm : Int32) (Mt : (Nat → Int32)) (p1 : Int32) (p2 : Int32) (p3 : Int32) (r0 : Int32) (hf : fX9_hasPeriod N Mh Mn Mm Mt p1 p2 p3 = some r0) : Met l yX9_hasPeriod wsX9_hasPeriod rX9_hasPeriod (gP D cI cJ cD [.ref (q 14), .int p1, .int p2, .int p3] (w_14_15 q cI cJ cD Mh Mn Mm Mt)) (gQ D (some (.int r0)) (w_14_15 q cI cJ cD Mh Mn Mm Mt) (gA q [14, 15])) 0 0 (gA q [14, 15]) := by
  refine Met.ofW (cc := cX9_hasPeriod) (maxL := 6) (ret := (some .boolean)) (by decide +kernel) rfl ?_
  intro p e s m args below meth c s₁ B hml hv
  obtain ⟨rfl, hP, hE⟩ := hv
  have hx := B.exec
  have hb := B.bytes
  have hr := B.returns
  have hts := atoms_spec (ws := wsX9_hasPeriod) B.pre
  have hown : s.vm.findClass RX9 = some m.cls := findClass_of_methodNamed B.named
  have hlocks := B.notSynchronized
  have hS : va_S (gA q [14, 15]) s.heap s.heap [] := va_S.rf
  have hl := lv_entry ([.ref (q 14), .int p1, .int p2, .int p3]) (n := 6) (Nat.le_of_ble_eq_true rfl)
  rw [lg_entry_eq]
  generalize (lg_sl ([.ref (q 14), .int p1, .int p2, .int p3]) ++ List.replicate (6 - (lg_sl ([.ref (q 14), .int p1, .int p2, .int p3])).length) Slot.unset).toArray = ls at hl ⊢
  have hl : lv_has ls 6 [(0, .ref (q 14)), (1, .int p1), (2, .int p2), (3, .int p3)] := hl
  have hk7 := hts (.fieldLink RX9 7 "LyndonTextModel" "text" "[I") (by decide +kernel)
  have huX9 : ∀ w ∈ u_ws RX9 TX9 11, w ∈ wsX9_hasPeriod := by decide +kernel
  have J51 : ∀ (x4 : Int32), fX9_hasPeriod_J51 N Mh Mn Mm Mt x4 = some r0 → ∀ (H : Heap) (locs : List Loc), va_P D vwCl (w_14_15 q cI cJ cD Mh Mn Mm Mt) H → va_S (gA q [14, 15]) s.heap H locs → ∀ ls : Array Slot, lv_has ls 6 [(4, .int x4)] → W p l e (headSpec wsX9_hasPeriod rX9_hasPeriod).room s m ([.ref (q 14), .int p1, .int p2, .int p3] : List Value).toArray below meth c H locs 0 0 (MQ below (gQ D (some (.int r0)) (w_14_15 q cI cJ cD Mh Mn Mm Mt) (gA q [14, 15])) ([.ref (q 14), .int p1, .int p2, .int p3] : List Value).toArray s 0 0 (gA q [14, 15])) (F0 m 51 ls []) := by
    intro x4 hf H locs hP hS ls hl
    unfold fX9_hasPeriod_J51 at hf
    refine lv_iload hx hb dX9_hasPeriod_51 (lv_at hl 0 rfl) ?_
    obtain ⟨g_1, hf⟩ := gd_some hf
    cases hf
    exact W.zret (ty := .boolean) hx hb hr (isB_nar g_1) (fun t ht hW => ⟨⟨rfl, by rw [ht]; exact hP⟩, hS.F ht⟩) hS.2.2 dX9_hasPeriod_53
  have K6 : ∀ (n6 : Nat) (x2 : Int32) (x3 : Int32) (x4 : Int32) (x5 : Int32), fX9_hasPeriod_H6 N Mh Mn Mm Mt n6 x2 x3 x4 x5 = some r0 → ∀ (H : Heap) (locs : List Loc), va_P D vwCl (w_14_15 q cI cJ cD Mh Mn Mm Mt) H → va_S (gA q [14, 15]) s.heap H locs → ∀ ls : Array Slot, lv_has ls 6 [(0, .ref (q 14)), (2, .int x2), (3, .int x3), (4, .int x4), (5, .int x5)] → W p l e (headSpec wsX9_hasPeriod rX9_hasPeriod).room s m ([.ref (q 14), .int p1, .int p2, .int p3] : List Value).toArray below meth c H locs 0 0 (MQ below (gQ D (some (.int r0)) (w_14_15 q cI cJ cD Mh Mn Mm Mt) (gA q [14, 15])) ([.ref (q 14), .int p1, .int p2, .int p3] : List Value).toArray s 0 0 (gA q [14, 15])) (F0 m 6 ls []) := by
    intro n6
    induction n6 with
    | zero =>
      intro x2 x3 x4 x5 hf
      exact nomatch (show (none : Option Int32) = some r0 from hf)
    | succ n6 ih6 =>
      have J43 : ∀ (x2 : Int32) (x3 : Int32) (x5 : Int32) (y0 : Int32), fX9_hasPeriod_J43 N Mh Mn Mm Mt (fX9_hasPeriod_H6 N Mh Mn Mm Mt n6) x2 x3 x5 y0 = some r0 → ∀ (H : Heap) (locs : List Loc), va_P D vwCl (w_14_15 q cI cJ cD Mh Mn Mm Mt) H → va_S (gA q [14, 15]) s.heap H locs → ∀ ls : Array Slot, lv_has ls 6 [(0, .ref (q 14)), (2, .int x2), (3, .int x3), (5, .int x5)] → W p l e (headSpec wsX9_hasPeriod rX9_hasPeriod).room s m ([.ref (q 14), .int p1, .int p2, .int p3] : List Value).toArray below meth c H locs 0 0 (MQ below (gQ D (some (.int r0)) (w_14_15 q cI cJ cD Mh Mn Mm Mt) (gA q [14, 15])) ([.ref (q 14), .int p1, .int p2, .int p3] : List Value).toArray s 0 0 (gA q [14, 15])) (F0 m 43 ls [.int y0]) := by
        intro x2 x3 x5 y0 hf H locs hP hS ls hl
        unfold fX9_hasPeriod_J43 at hf
        refine lv_istore (lv' := [(4, .int y0), (0, .ref (q 14)), (2, .int x2), (3, .int x3), (5, .int x5)]) hx hb dX9_hasPeriod_43 hl (by decide) rfl (fun ls hl => ?_)
        refine lv_iinc (v := (x5 + 1)) (lv' := [(5, .int (x5 + 1)), (4, .int y0), (0, .ref (q 14)), (2, .int x2), (3, .int x3)]) hx hb dX9_hasPeriod_45 hl (k := 4) rfl rfl (by decide) rfl (fun ls hl => ?_)
        refine lv_goto (tgt := 6) hx hb dX9_hasPeriod_48 (by decide) ?_
        exact ih6 x2 x3 y0 (x5 + 1) hf _ _ hP hS _ (lv_sub hl [2, 3, 4, 1, 0] rfl)
      have J42 : ∀ (x2 : Int32) (x3 : Int32) (x5 : Int32), fX9_hasPeriod_J42 N Mh Mn Mm Mt (fX9_hasPeriod_H6 N Mh Mn Mm Mt n6) x2 x3 x5 = some r0 → ∀ (H : Heap) (locs : List Loc), va_P D vwCl (w_14_15 q cI cJ cD Mh Mn Mm Mt) H → va_S (gA q [14, 15]) s.heap H locs → ∀ ls : Array Slot, lv_has ls 6 [(0, .ref (q 14)), (2, .int x2), (3, .int x3), (5, .int x5)] → W p l e (headSpec wsX9_hasPeriod rX9_hasPeriod).room s m ([.ref (q 14), .int p1, .int p2, .int p3] : List Value).toArray below meth c H locs 0 0 (MQ below (gQ D (some (.int r0)) (w_14_15 q cI cJ cD Mh Mn Mm Mt) (gA q [14, 15])) ([.ref (q 14), .int p1, .int p2, .int p3] : List Value).toArray s 0 0 (gA q [14, 15])) (F0 m 42 ls []) := by
        intro x2 x3 x5 hf H locs hP hS ls hl
        unfold fX9_hasPeriod_J42 at hf
        refine lv_iconst (v := (0 : Int32)) hx hb dX9_hasPeriod_42 (by decide) ?_
        exact J43 x2 x3 x5 (0 : Int32) hf _ _ hP hS _ (lv_sub hl [0, 1, 2, 3] rfl)
      intro x2 x3 x4 x5 hf H locs hP hS ls hl
      have hf : fX9_hasPeriod_B6 N Mh Mn Mm Mt (fX9_hasPeriod_H6 N Mh Mn Mm Mt n6) x2 x3 x4 x5 = some r0 := hf
      unfold fX9_hasPeriod_B6 at hf
      refine lv_iload hx hb dX9_hasPeriod_6 (lv_at hl 4 rfl) ?_
      refine lv_iload_n hx hb dX9_hasPeriod_8 rfl (lv_at hl 2 rfl) ?_
      refine lv_iadd hx hb dX9_hasPeriod_9 ?_
      refine lv_iload_n hx hb dX9_hasPeriod_10 rfl (lv_at hl 1 rfl) ?_
      refine lv_icmp_ge (tgt := 51) hx hb dX9_hasPeriod_11 (by decide) (fun c_2 => ?_) (fun c_2 => ?_)
      · have hf := (if_pos c_2).symm.trans hf
        exact J51 x4 hf _ _ hP hS _ (lv_sub hl [3] rfl)
      · have hf := (if_neg c_2).symm.trans hf
        refine lv_iload hx hb dX9_hasPeriod_14 (lv_at hl 3 rfl) ?_
        refine lv_if_eq (tgt := 42) hx hb dX9_hasPeriod_16 (by decide) (fun c_3 => ?_) (fun c_3 => ?_)
        · have hf := (if_pos c_3).symm.trans hf
          exact J42 x2 x3 x5 hf _ _ hP hS _ (lv_sub hl [0, 1, 2, 4] rfl)
        · have hf := (if_neg c_3).symm.trans hf
          refine lv_aload_n hx hb dX9_hasPeriod_19 rfl (lv_at hl 0 rfl) ?_
          refine va_get (D := D) (ci := 7) (v := .ref (q 15)) (C := RX9) (T := TX9) (N := 11) hx hb hts huX9 hown hE.1 hP 0 rfl rfl 2 (by decide) hk7 (fun _ h9 => h9) rfl dX9_hasPeriod_20 ?_
          refine lv_iload hx hb dX9_hasPeriod_23 (lv_at hl 4 rfl) ?_
          obtain ⟨g_4, hf⟩ := gd_some hf
          refine va_iald hx hb hE.1 hP 1 0 rfl rfl (inb_in g_4) dX9_hasPeriod_25 ?_
          refine lv_aload_n hx hb dX9_hasPeriod_26 rfl (lv_at hl 0 rfl) ?_
          refine va_get (D := D) (ci := 7) (v := .ref (q 15)) (C := RX9) (T := TX9) (N := 11) hx hb hts huX9 hown hE.1 hP 0 rfl rfl 2 (by decide) hk7 (fun _ h9 => h9) rfl dX9_hasPeriod_27 ?_
          refine lv_iload hx hb dX9_hasPeriod_30 (lv_at hl 4 rfl) ?_
          refine lv_iload_n hx hb dX9_hasPeriod_32 rfl (lv_at hl 2 rfl) ?_
          refine lv_iadd hx hb dX9_hasPeriod_33 ?_
          obtain ⟨g_5, hf⟩ := gd_some hf
          refine va_iald hx hb hE.1 hP 1 0 rfl rfl (inb_in g_5) dX9_hasPeriod_34 ?_
          refine lv_icmp_ne (tgt := 42) hx hb dX9_hasPeriod_35 (by decide) (fun c_6 => ?_) (fun c_6 => ?_)
          · have hf := (if_neg c_6).symm.trans hf
            exact J42 x2 x3 x5 hf _ _ hP hS _ (lv_sub hl [0, 1, 2, 4] rfl)
          · have hf := (if_pos c_6).symm.trans hf
            refine lv_iconst (v := (1 : Int32)) hx hb dX9_hasPeriod_38 (by decide) ?_
            refine lv_goto (tgt := 43) hx hb dX9_hasPeriod_39 (by decide) ?_
            exact J43 x2 x3 x5 (1 : Int32) hf _ _ hP hS _ (lv_sub hl [0, 1, 2, 4] rfl)
  unfold fX9_hasPeriod at hf
  refine lv_iconst (v := (1 : Int32)) hx hb dX9_hasPeriod_0 (by decide) ?_
  refine lv_istore (lv' := [(4, .int (1 : Int32)), (0, .ref (q 14)), (1, .int p1), (2, .int p2), (3, .int p3)]) hx hb dX9_hasPeriod_1 hl (by decide) rfl (fun ls hl => ?_)
  refine lv_iload_n hx hb dX9_hasPeriod_3 rfl (lv_at hl 2 rfl) ?_
  refine lv_istore (lv' := [(5, .int p1), (4, .int (1 : Int32)), (0, .ref (q 14)), (1, .int p1), (2, .int p2), (3, .int p3)]) hx hb dX9_hasPeriod_4 hl (by decide) rfl (fun ls hl => ?_)
  exact K6 N p2 p3 (1 : Int32) p1 hf _ _ hP hS _ (lv_sub hl [2, 4, 5, 1, 0] rfl)
set_option maxHeartbeats 4000000 in
set_option maxRecDepth 100000 in
theorem kX9_root (l : Launch) (D : va_G) (cI cJ cD : ClassId) (q : Nat → Nat) (hq : gInj q) (N : Nat) (Mh : Int32) (Mn : Int32) (Mm : Int32) (Mt : (Nat → Int32)) (p1 : Int32) (p2 : Int32) (r0 : Int32) (hf : fX9_root N Mh Mn Mm Mt p1 p2 = some r0) : Met l yX9_root wsX9_root rX9_root (gP D cI cJ cD [.ref (q 14), .int p1, .int p2] (w_14_15 q cI cJ cD Mh Mn Mm Mt)) (gQ D (some (.int r0)) (w_14_15 q cI cJ cD Mh Mn Mm Mt) (gA q [14, 15])) 0 0 (gA q [14, 15]) := by
  refine Met.ofW (cc := cX9_root) (maxL := 4) (ret := (some .int)) (by decide +kernel) rfl ?_
  intro p e s m args below meth c s₁ B hml hv
  obtain ⟨rfl, hP, hE⟩ := hv
  have hx := B.exec
  have hb := B.bytes
  have hr := B.returns
  have hts := atoms_spec (ws := wsX9_root) B.pre
  have hown : s.vm.findClass RX9 = some m.cls := findClass_of_methodNamed B.named
  have hlocks := B.notSynchronized
  have hS : va_S (gA q [14, 15]) s.heap s.heap [] := va_S.rf
  have hl := lv_entry ([.ref (q 14), .int p1, .int p2]) (n := 4) (Nat.le_of_ble_eq_true rfl)
  rw [lg_entry_eq]
  generalize (lg_sl ([.ref (q 14), .int p1, .int p2]) ++ List.replicate (4 - (lg_sl ([.ref (q 14), .int p1, .int p2])).length) Slot.unset).toArray = ls at hl ⊢
  have hl : lv_has ls 4 [(0, .ref (q 14)), (1, .int p1), (2, .int p2)] := hl
  have J26 : ∀ (x3 : Int32), fX9_root_J26 N Mh Mn Mm Mt x3 = some r0 → ∀ (H : Heap) (locs : List Loc), va_P D vwCl (w_14_15 q cI cJ cD Mh Mn Mm Mt) H → va_S (gA q [14, 15]) s.heap H locs → ∀ ls : Array Slot, lv_has ls 4 [(3, .int x3)] → W p l e (headSpec wsX9_root rX9_root).room s m ([.ref (q 14), .int p1, .int p2] : List Value).toArray below meth c H locs 0 0 (MQ below (gQ D (some (.int r0)) (w_14_15 q cI cJ cD Mh Mn Mm Mt) (gA q [14, 15])) ([.ref (q 14), .int p1, .int p2] : List Value).toArray s 0 0 (gA q [14, 15])) (F0 m 26 ls []) := by
    intro x3 hf H locs hP hS ls hl
    unfold fX9_root_J26 at hf
    refine lv_iload_n hx hb dX9_root_26 rfl (lv_at hl 0 rfl) ?_
    cases hf
    exact W.iret hx hb hr (fun t ht hW => ⟨⟨rfl, by rw [ht]; exact hP⟩, hS.F ht⟩) hS.2.2 dX9_root_27
  have K2 : ∀ (n2 : Nat) (x1 : Int32) (x2 : Int32) (x3 : Int32), fX9_root_H2 N Mh Mn Mm Mt n2 x1 x2 x3 = some r0 → ∀ (H : Heap) (locs : List Loc), va_P D vwCl (w_14_15 q cI cJ cD Mh Mn Mm Mt) H → va_S (gA q [14, 15]) s.heap H locs → ∀ ls : Array Slot, lv_has ls 4 [(0, .ref (q 14)), (1, .int x1), (2, .int x2), (3, .int x3)] → W p l e (headSpec wsX9_root rX9_root).room s m ([.ref (q 14), .int p1, .int p2] : List Value).toArray below meth c H locs 0 0 (MQ below (gQ D (some (.int r0)) (w_14_15 q cI cJ cD Mh Mn Mm Mt) (gA q [14, 15])) ([.ref (q 14), .int p1, .int p2] : List Value).toArray s 0 0 (gA q [14, 15])) (F0 m 2 ls []) := by
    intro n2
    induction n2 with
    | zero =>
      intro x1 x2 x3 hf
      exact nomatch (show (none : Option Int32) = some r0 from hf)
    | succ n2 ih2 =>
      have J20 : ∀ (x1 : Int32) (x2 : Int32) (x3 : Int32), fX9_root_J20 N Mh Mn Mm Mt (fX9_root_H2 N Mh Mn Mm Mt n2) x1 x2 x3 = some r0 → ∀ (H : Heap) (locs : List Loc), va_P D vwCl (w_14_15 q cI cJ cD Mh Mn Mm Mt) H → va_S (gA q [14, 15]) s.heap H locs → ∀ ls : Array Slot, lv_has ls 4 [(0, .ref (q 14)), (1, .int x1), (2, .int x2), (3, .int x3)] → W p l e (headSpec wsX9_root rX9_root).room s m ([.ref (q 14), .int p1, .int p2] : List Value).toArray below meth c H locs 0 0 (MQ below (gQ D (some (.int r0)) (w_14_15 q cI cJ cD Mh Mn Mm Mt) (gA q [14, 15])) ([.ref (q 14), .int p1, .int p2] : List Value).toArray s 0 0 (gA q [14, 15])) (F0 m 20 ls []) := by
        intro x1 x2 x3 hf H locs hP hS ls hl
        unfold fX9_root_J20 at hf
        refine lv_iinc (v := (x3 + 1)) (lv' := [(3, .int (x3 + 1)), (0, .ref (q 14)), (1, .int x1), (2, .int x2)]) hx hb dX9_root_20 hl (k := 3) rfl rfl (by decide) rfl (fun ls hl => ?_)
        refine lv_goto (tgt := 2) hx hb dX9_root_23 (by decide) ?_
        exact ih2 x1 x2 (x3 + 1) hf _ _ hP hS _ (lv_sub hl [1, 2, 3, 0] rfl)
      intro x1 x2 x3 hf H locs hP hS ls hl
      have hf : fX9_root_B2 N Mh Mn Mm Mt (fX9_root_H2 N Mh Mn Mm Mt n2) x1 x2 x3 = some r0 := hf
      unfold fX9_root_B2 at hf
      refine lv_iload_n hx hb dX9_root_2 rfl (lv_at hl 2 rfl) ?_
      refine lv_iload_n hx hb dX9_root_3 rfl (lv_at hl 1 rfl) ?_
      refine lv_isub hx hb dX9_root_4 ?_
      refine lv_iload_n hx hb dX9_root_5 rfl (lv_at hl 3 rfl) ?_
      obtain ⟨g_1, hf⟩ := gd_some hf
      refine lv_irem hx hb dX9_root_6 (nz_ne g_1) ?_
      refine lv_if_ne (tgt := 20) hx hb dX9_root_7 (by decide) (fun c_2 => ?_) (fun c_2 => ?_)
      · have hf := (if_neg c_2).symm.trans hf
        exact J20 x1 x2 x3 hf _ _ hP hS _ (lv_sub hl [0, 1, 2, 3] rfl)
      · have hf := (if_pos c_2).symm.trans hf
        refine lv_aload_n hx hb dX9_root_10 rfl (lv_at hl 0 rfl) ?_
        refine lv_iload_n hx hb dX9_root_11 rfl (lv_at hl 1 rfl) ?_
        refine lv_iload_n hx hb dX9_root_12 rfl (lv_at hl 2 rfl) ?_
        refine lv_iload_n hx hb dX9_root_13 rfl (lv_at hl 3 rfl) ?_
        obtain ⟨r14, hc, hf⟩ := bn_some hf
        try dsimp only at hf
        refine g_call0 (ws' := (w_14_15 q cI cJ cD Mh Mn Mm Mt)) (st1 := [.int r14]) hq [14, 15] [14, 15] [.inl 0, .inl 1] (va_runV (As := [.int x1, .int x2, .int x3]) (rest := []) ⟨hx, hb, hml, hown, hts⟩ (kX9_hasPeriod l D cI cJ cD q hq N Mh Mn Mm Mt x1 x2 x3 r14 hc) (cwV 3 hts gX9_root_X9_hasPeriod rfl rfl rfl (by decide +kernel) ⟨(Nat.le_of_ble_eq_true rfl), (Nat.le_of_ble_eq_true rfl)⟩) ⟨gP_blind, va_recv hE.1 hP (ci := 7) (q0 := 0) rfl rfl, fun U hU hW => ⟨rfl, by rw [hU]; exact hP.sub (ws' := (w_14_15 q cI cJ cD Mh Mn Mm Mt)) [0, 1] rfl, gEv.warm hW hE⟩⟩ rfl rfl hl.1 rfl (lv_room (Nat.le_of_ble_eq_true rfl)) dX9_root_14 ⟨Nat.zero_le _, Nat.zero_le _⟩) hP hS (gSub rfl) rfl rfl rfl rfl rfl (fun H locs hP hS => ?_)
        refine lv_if_ne (tgt := 26) hx hb dX9_root_17 (by decide) (fun c_3 => ?_) (fun c_3 => ?_)
        · have hf := (if_neg c_3).symm.trans hf
          exact J26 x3 hf _ _ hP hS _ (lv_sub hl [3] rfl)
        · have hf := (if_pos c_3).symm.trans hf
          exact J20 x1 x2 x3 hf _ _ hP hS _ (lv_sub hl [0, 1, 2, 3] rfl)
  unfold fX9_root at hf
  refine lv_iconst (v := (1 : Int32)) hx hb dX9_root_0 (by decide) ?_
  refine lv_istore_n (lv' := [(3, .int (1 : Int32)), (0, .ref (q 14)), (1, .int p1), (2, .int p2)]) hx hb dX9_root_1 rfl hl (by decide) rfl (fun ls hl => ?_)
  exact K2 N p1 p2 (1 : Int32) hf _ _ hP hS _ (lv_sub hl [1, 2, 3, 0] rfl)
set_option maxHeartbeats 4000000 in
set_option maxRecDepth 100000 in
theorem kX9_loadNecklace (l : Launch) (D : va_G) (cI cJ cD : ClassId) (q : Nat → Nat) (hq : gInj q) (N : Nat) (Mh : Int32) (Mn : Int32) (Mm : Int32) (Mt : (Nat → Int32)) (Mw : (Nat → Int32)) (p1 : Int32) (p2 : Int32) (p3 : Int32) (r0 : Int32) (Mh9 : Int32) (Mn9 : Int32) (Mt9 : (Nat → Int32)) (Mw9 : (Nat → Int32)) (hf : fX9_loadNecklace N Mh Mn Mm Mt Mw p1 p2 p3 = some (r0, Mh9, Mn9, Mt9, Mw9)) : Met l yX9_loadNecklace wsX9_loadNecklace rX9_loadNecklace (gP D cI cJ cD [.ref (q 14), .int p1, .int p2, .int p3] (w_14_15_20 q cI cJ cD Mh Mn Mm Mt Mw)) (gQ D (some (.int r0)) (w_14_15_20 q cI cJ cD Mh9 Mn9 Mm Mt9 Mw9) (gA q [14, 15, 20])) 0 0 (gA q [14, 15, 20]) := by
  refine Met.ofW (cc := cX9_loadNecklace) (maxL := 7) (ret := (some .int)) (by decide +kernel) rfl ?_
  intro p e s m args below meth c s₁ B hml hv
  obtain ⟨rfl, hP, hE⟩ := hv
  have hx := B.exec
  have hb := B.bytes
  have hr := B.returns
  have hts := atoms_spec (ws := wsX9_loadNecklace) B.pre
  have hown : s.vm.findClass RX9 = some m.cls := findClass_of_methodNamed B.named
  have hlocks := B.notSynchronized
  have hS : va_S (gA q [14, 15, 20]) s.heap s.heap [] := va_S.rf
  have hl := lv_entry ([.ref (q 14), .int p1, .int p2, .int p3]) (n := 7) (Nat.le_of_ble_eq_true rfl)
  rw [lg_entry_eq]
  generalize (lg_sl ([.ref (q 14), .int p1, .int p2, .int p3]) ++ List.replicate (7 - (lg_sl ([.ref (q 14), .int p1, .int p2, .int p3])).length) Slot.unset).toArray = ls at hl ⊢
  have hl : lv_has ls 7 [(0, .ref (q 14)), (1, .int p1), (2, .int p2), (3, .int p3)] := hl
  have hDm : ∀ (z0 : Int32) (z1 : Int32) (z2 : Int32) (z3 : (Nat → Int32)) (z4 : (Nat → Int32)), va_D (gA q [14, 15, 20]) (w_14_15_20 q cI cJ cD z0 z1 z2 z3 z4) := fun _ _ _ _ _ => gD_of hq [14, 15, 20] rfl rfl rfl (fun k h => ⟨k, h, rfl⟩)
  have hk39 := hts (.fieldLink RX9 39 "LyndonTextModel" "length" "I") (by decide +kernel)
  have hk7 := hts (.fieldLink RX9 7 "LyndonTextModel" "text" "[I") (by decide +kernel)
  have hk25 := hts (.fieldLink RX9 25 "LyndonTextModel" "word" "[I") (by decide +kernel)
  have huX9 : ∀ w ∈ u_ws RX9 TX9 11, w ∈ wsX9_loadNecklace := by decide +kernel
  have J110 : ∀ (Mh : Int32) (Mn : Int32) (Mt : (Nat → Int32)) (Mw : (Nat → Int32)) (x2 : Int32), fX9_loadNecklace_J110 N Mm Mh Mn Mt Mw x2 = some (r0, Mh9, Mn9, Mt9, Mw9) → ∀ (H : Heap) (locs : List Loc), va_P D vwCl (w_14_15_20 q cI cJ cD Mh Mn Mm Mt Mw) H → va_S (gA q [14, 15, 20]) s.heap H locs → ∀ ls : Array Slot, lv_has ls 7 [(0, .ref (q 14)), (2, .int x2)] → W p l e (headSpec wsX9_loadNecklace rX9_loadNecklace).room s m ([.ref (q 14), .int p1, .int p2, .int p3] : List Value).toArray below meth c H locs 0 0 (MQ below (gQ D (some (.int r0)) (w_14_15_20 q cI cJ cD Mh9 Mn9 Mm Mt9 Mw9) (gA q [14, 15, 20])) ([.ref (q 14), .int p1, .int p2, .int p3] : List Value).toArray s 0 0 (gA q [14, 15, 20])) (F0 m 110 ls []) := by
    intro Mh Mn Mt Mw x2 hf H locs hP hS ls hl
    unfold fX9_loadNecklace_J110 at hf
    refine lv_aload_n hx hb dX9_loadNecklace_110 rfl (lv_at hl 0 rfl) ?_
    refine lv_iconst (v := (0 : Int32)) hx hb dX9_loadNecklace_111 (by decide) ?_
    refine lv_iload_n hx hb dX9_loadNecklace_112 rfl (lv_at hl 1 rfl) ?_
    obtain ⟨r113, hc, hf⟩ := bn_some hf
    try dsimp only at hf
    refine g_call0 (ws' := (w_14_15_20 q cI cJ cD Mh Mn Mm Mt Mw)) (st1 := [.int r113]) hq [14, 15, 20] [14, 15] [.inl 0, .inl 1, .inr 2] (va_runV (As := [.int (0 : Int32), .int x2]) (rest := []) ⟨hx, hb, hml, hown, hts⟩ (kX9_root l D cI cJ cD q hq N Mh Mn Mm Mt (0 : Int32) x2 r113 hc) (cwV 2 hts gX9_loadNecklace_X9_root rfl rfl rfl (by decide +kernel) ⟨(Nat.le_of_ble_eq_true rfl), (Nat.le_of_ble_eq_true rfl)⟩) ⟨gP_blind, va_recv hE.1 hP (ci := 7) (q0 := 0) rfl rfl, fun U hU hW => ⟨rfl, by rw [hU]; exact hP.sub (ws' := (w_14_15 q cI cJ cD Mh Mn Mm Mt)) [0, 1] rfl, gEv.warm hW hE⟩⟩ rfl rfl hl.1 rfl (lv_room (Nat.le_of_ble_eq_true rfl)) dX9_loadNecklace_113 ⟨Nat.zero_le _, Nat.zero_le _⟩) hP hS (gSub rfl) rfl rfl rfl rfl rfl (fun H locs hP hS => ?_)
    cases hf
    exact W.iret hx hb hr (fun t ht hW => ⟨⟨rfl, by rw [ht]; exact hP⟩, hS.F ht⟩) hS.2.2 dX9_loadNecklace_116
  have K84 : ∀ (n84 : Nat) (Mh : Int32) (Mn : Int32) (Mt : (Nat → Int32)) (Mw : (Nat → Int32)) (x2 : Int32) (x6 : Int32), fX9_loadNecklace_H84 N Mm n84 Mh Mn Mt Mw x2 x6 = some (r0, Mh9, Mn9, Mt9, Mw9) → ∀ (H : Heap) (locs : List Loc), va_P D vwCl (w_14_15_20 q cI cJ cD Mh Mn Mm Mt Mw) H → va_S (gA q [14, 15, 20]) s.heap H locs → ∀ ls : Array Slot, lv_has ls 7 [(0, .ref (q 14)), (2, .int x2), (6, .int x6)] → W p l e (headSpec wsX9_loadNecklace rX9_loadNecklace).room s m ([.ref (q 14), .int p1, .int p2, .int p3] : List Value).toArray below meth c H locs 0 0 (MQ below (gQ D (some (.int r0)) (w_14_15_20 q cI cJ cD Mh9 Mn9 Mm Mt9 Mw9) (gA q [14, 15, 20])) ([.ref (q 14), .int p1, .int p2, .int p3] : List Value).toArray s 0 0 (gA q [14, 15, 20])) (F0 m 84 ls []) := by
    intro n84
    induction n84 with
    | zero =>
      intro Mh Mn Mt Mw x2 x6 hf
      exact nomatch (show (none : Option (Int32 × Int32 × Int32 × (Nat → Int32) × (Nat → Int32))) = some (r0, Mh9, Mn9, Mt9, Mw9) from hf)
    | succ n84 ih84 =>
      intro Mh Mn Mt Mw x2 x6 hf H locs hP hS ls hl
      have hf : fX9_loadNecklace_B84 N Mm (fX9_loadNecklace_H84 N Mm n84) Mh Mn Mt Mw x2 x6 = some (r0, Mh9, Mn9, Mt9, Mw9) := hf
      unfold fX9_loadNecklace_B84 at hf
      refine lv_iload hx hb dX9_loadNecklace_84 (lv_at hl 2 rfl) ?_
      refine lv_iload_n hx hb dX9_loadNecklace_86 rfl (lv_at hl 1 rfl) ?_
      refine lv_icmp_ge (tgt := 110) hx hb dX9_loadNecklace_87 (by decide) (fun c_1 => ?_) (fun c_1 => ?_)
      · have hf := (if_pos c_1).symm.trans hf
        exact J110 Mh Mn Mt Mw x2 hf _ _ hP hS _ (lv_sub hl [0, 1] rfl)
      · have hf := (if_neg c_1).symm.trans hf
        refine lv_aload_n hx hb dX9_loadNecklace_90 rfl (lv_at hl 0 rfl) ?_
        refine va_get (D := D) (ci := 7) (v := .ref (q 15)) (C := RX9) (T := TX9) (N := 11) hx hb hts huX9 hown hE.1 hP 0 rfl rfl 2 (by decide) hk7 (fun _ h9 => h9) rfl dX9_loadNecklace_91 ?_
        refine lv_iload hx hb dX9_loadNecklace_94 (lv_at hl 2 rfl) ?_
        refine lv_aload_n hx hb dX9_loadNecklace_96 rfl (lv_at hl 0 rfl) ?_
        refine va_get (D := D) (ci := 7) (v := .ref (q 20)) (C := RX9) (T := TX9) (N := 11) hx hb hts huX9 hown hE.1 hP 0 rfl rfl 8 (by decide) hk25 (fun _ h9 => h9) rfl dX9_loadNecklace_97 ?_
        refine lv_iload hx hb dX9_loadNecklace_100 (lv_at hl 2 rfl) ?_
        obtain ⟨g_2, hf⟩ := gd_some hf
        refine va_iald hx hb hE.1 hP 2 0 rfl rfl (inb_in g_2) dX9_loadNecklace_102 ?_
        obtain ⟨g_3, hf⟩ := gd_some hf
        refine va_iast hx hb hE.1 hP (hDm Mh Mn Mm Mt Mw) hS 1 0 rfl rfl (inb_in g_3) dX9_loadNecklace_103 (fun H locs hP _ hS => ?_)
        have hP : va_P D vwCl (w_14_15_20 q cI cJ cD Mh Mn Mm (upd Mt (x6).toNatClampNeg (Mw (x6).toNatClampNeg)) Mw) H := hP
        refine lv_iinc (v := (x6 + 1)) (lv' := [(6, .int (x6 + 1)), (0, .ref (q 14)), (2, .int x2)]) hx hb dX9_loadNecklace_104 hl (k := 2) rfl rfl (by decide) rfl (fun ls hl => ?_)
        refine lv_goto (tgt := 84) hx hb dX9_loadNecklace_107 (by decide) ?_
        exact ih84 Mh Mn (upd Mt (x6).toNatClampNeg (Mw (x6).toNatClampNeg)) Mw x2 (x6 + 1) hf _ _ hP hS _ (lv_sub hl [1, 2, 0] rfl)
  have J60 : ∀ (Mh : Int32) (Mn : Int32) (Mt : (Nat → Int32)) (Mw : (Nat → Int32)) (x1 : Int32) (x2 : Int32) (x5 : Int32) (y1 : Int32), fX9_loadNecklace_J60 N Mm Mh Mn Mt Mw x1 x2 x5 y1 = some (r0, Mh9, Mn9, Mt9, Mw9) → ∀ (H : Heap) (locs : List Loc), va_P D vwCl (w_14_15_20 q cI cJ cD Mh Mn Mm Mt Mw) H → va_S (gA q [14, 15, 20]) s.heap H locs → ∀ ls : Array Slot, lv_has ls 7 [(0, .ref (q 14)), (1, .int x1), (2, .int x2), (5, .int x5)] → W p l e (headSpec wsX9_loadNecklace rX9_loadNecklace).room s m ([.ref (q 14), .int p1, .int p2, .int p3] : List Value).toArray below meth c H locs 0 0 (MQ below (gQ D (some (.int r0)) (w_14_15_20 q cI cJ cD Mh9 Mn9 Mm Mt9 Mw9) (gA q [14, 15, 20])) ([.ref (q 14), .int p1, .int p2, .int p3] : List Value).toArray s 0 0 (gA q [14, 15, 20])) (F0 m 60 ls [.int y1, .ref (q 14)]) := by
    intro Mh Mn Mt Mw x1 x2 x5 y1 hf H locs hP hS ls hl
    unfold fX9_loadNecklace_J60 at hf
    obtain ⟨⟨r60, Mh60⟩, hc, hf⟩ := bn_some hf
    try dsimp only at hf
    refine g_call0 (ws' := (w_14_15_20 q cI cJ cD Mh60 Mn Mm Mt Mw)) (st1 := [.int r60]) hq [14, 15, 20] [14] [.inl 0, .inr 1, .inr 2] (va_runV (As := [.int y1]) (rest := []) ⟨hx, hb, hml, hown, hts⟩ (kX9_goesWell l D cI cJ cD q hq N Mh Mn Mm y1 r60 Mh60 hc) (cwV 1 hts gX9_loadNecklace_X9_goesWell rfl rfl rfl (by decide +kernel) ⟨(Nat.le_of_ble_eq_true rfl), (Nat.le_of_ble_eq_true rfl)⟩) ⟨gP_blind, va_recv hE.1 hP (ci := 7) (q0 := 0) rfl rfl, fun U hU hW => ⟨rfl, by rw [hU]; exact hP.sub (ws' := (w_14 q cI cJ cD Mh Mn Mm)) [0] rfl, gEv.warm hW hE⟩⟩ rfl rfl hl.1 rfl (lv_room (Nat.le_of_ble_eq_true rfl)) dX9_loadNecklace_60 ⟨Nat.zero_le _, Nat.zero_le _⟩) hP hS (gSub rfl) rfl rfl rfl rfl rfl (fun H locs hP hS => ?_)
    refine lv_if_ne (tgt := 68) hx hb dX9_loadNecklace_63 (by decide) (fun c_4 => ?_) (fun c_4 => ?_)
    · have hf := (if_neg c_4).symm.trans hf
      refine lv_aload_n hx hb dX9_loadNecklace_68 rfl (lv_at hl 0 rfl) ?_
      refine lv_iload hx hb dX9_loadNecklace_69 (lv_at hl 3 rfl) ?_
      refine lv_iload_n hx hb dX9_loadNecklace_71 rfl (lv_at hl 1 rfl) ?_
      refine lv_iload_n hx hb dX9_loadNecklace_72 rfl (lv_at hl 2 rfl) ?_
      obtain ⟨Mw73, hc, hf⟩ := bn_some hf
      try dsimp only at hf
      refine g_call0 (ws' := (w_14_15_20 q cI cJ cD Mh60 Mn Mm Mt Mw73)) (st1 := []) hq [14, 15, 20] [14, 20] [.inl 0, .inr 1, .inl 1] (va_runV (As := [.int x5, .int x1, .int x2]) (rest := []) ⟨hx, hb, hml, hown, hts⟩ (kX9_layWord l D cI cJ cD q hq N Mh60 Mn Mm Mw x5 x1 x2 Mw73 hc) (cwV 3 hts gX9_loadNecklace_X9_layWord rfl rfl rfl (by decide +kernel) ⟨(Nat.le_of_ble_eq_true rfl), (Nat.le_of_ble_eq_true rfl)⟩) ⟨gP_blind, va_recv hE.1 hP (ci := 7) (q0 := 0) rfl rfl, fun U hU hW => ⟨rfl, by rw [hU]; exact hP.sub (ws' := (w_14_20 q cI cJ cD Mh60 Mn Mm Mw)) [0, 2] rfl, gEv.warm hW hE⟩⟩ rfl rfl hl.1 rfl (lv_room (Nat.le_of_ble_eq_true rfl)) dX9_loadNecklace_73 ⟨Nat.zero_le _, Nat.zero_le _⟩) hP hS (gSub rfl) rfl rfl rfl rfl rfl (fun H locs hP hS => ?_)
      refine lv_aload_n hx hb dX9_loadNecklace_76 rfl (lv_at hl 0 rfl) ?_
      refine lv_iload_n hx hb dX9_loadNecklace_77 rfl (lv_at hl 2 rfl) ?_
      refine va_put (D := D) (ci := 7) (v := .int x2) (ty := .int) (C := RX9) (T := TX9) (N := 11) hx hb hts huX9 tyX9 tyX9_ok nmX9 hown hE.1 hP (hDm Mh60 Mn Mm Mt Mw73) hS 0 rfl rfl 1 (by decide) hk39 (fun _ h9 => h9) rfl (by decide +kernel) rfl rfl (Nat.le_of_ble_eq_true rfl) dX9_loadNecklace_78 (fun H locs hP _ hS => ?_)
      have hP : va_P D vwCl (w_14_15_20 q cI cJ cD Mh60 x2 Mm Mt Mw73) H := hP
      refine lv_iconst (v := (0 : Int32)) hx hb dX9_loadNecklace_81 (by decide) ?_
      refine lv_istore (lv' := [(6, .int (0 : Int32)), (0, .ref (q 14)), (1, .int x1), (2, .int x2), (5, .int x5)]) hx hb dX9_loadNecklace_82 hl (by decide) rfl (fun ls hl => ?_)
      exact K84 N Mh60 x2 Mt Mw73 x2 (0 : Int32) hf _ _ hP hS _ (lv_sub hl [1, 3, 0] rfl)
    · have hf := (if_pos c_4).symm.trans hf
      refine lv_iconst (v := (0 : Int32)) hx hb dX9_loadNecklace_66 (by decide) ?_
      cases hf
      exact W.iret hx hb hr (fun t ht hW => ⟨⟨rfl, by rw [ht]; exact hP⟩, hS.F ht⟩) hS.2.2 dX9_loadNecklace_67
  have J46 : ∀ (Mh : Int32) (Mn : Int32) (Mt : (Nat → Int32)) (Mw : (Nat → Int32)) (x1 : Int32) (x2 : Int32) (y0 : Int32), fX9_loadNecklace_J46 N Mm Mh Mn Mt Mw x1 x2 y0 = some (r0, Mh9, Mn9, Mt9, Mw9) → ∀ (H : Heap) (locs : List Loc), va_P D vwCl (w_14_15_20 q cI cJ cD Mh Mn Mm Mt Mw) H → va_S (gA q [14, 15, 20]) s.heap H locs → ∀ ls : Array Slot, lv_has ls 7 [(0, .ref (q 14)), (1, .int x1), (2, .int x2)] → W p l e (headSpec wsX9_loadNecklace rX9_loadNecklace).room s m ([.ref (q 14), .int p1, .int p2, .int p3] : List Value).toArray below meth c H locs 0 0 (MQ below (gQ D (some (.int r0)) (w_14_15_20 q cI cJ cD Mh9 Mn9 Mm Mt9 Mw9) (gA q [14, 15, 20])) ([.ref (q 14), .int p1, .int p2, .int p3] : List Value).toArray s 0 0 (gA q [14, 15, 20])) (F0 m 46 ls [.int y0]) := by
    intro Mh Mn Mt Mw x1 x2 y0 hf H locs hP hS ls hl
    unfold fX9_loadNecklace_J46 at hf
    refine lv_istore (lv' := [(5, .int y0), (0, .ref (q 14)), (1, .int x1), (2, .int x2)]) hx hb dX9_loadNecklace_46 hl (by decide) rfl (fun ls hl => ?_)
    refine lv_aload_n hx hb dX9_loadNecklace_48 rfl (lv_at hl 1 rfl) ?_
    refine lv_iload hx hb dX9_loadNecklace_49 (lv_at hl 0 rfl) ?_
    refine lv_iconst (v := (-1 : Int32)) hx hb dX9_loadNecklace_51 (by decide) ?_
    refine lv_icmp_ne (tgt := 59) hx hb dX9_loadNecklace_52 (by decide) (fun c_5 => ?_) (fun c_5 => ?_)
    · have hf := (if_neg c_5).symm.trans hf
      refine lv_iconst (v := (0 : Int32)) hx hb dX9_loadNecklace_59 (by decide) ?_
      exact J60 Mh Mn Mt Mw x1 x2 y0 (0 : Int32) hf _ _ hP hS _ (lv_sub hl [1, 2, 3, 0] rfl)
    · have hf := (if_pos c_5).symm.trans hf
      refine lv_iconst (v := (1 : Int32)) hx hb dX9_loadNecklace_55 (by decide) ?_
      refine lv_goto (tgt := 60) hx hb dX9_loadNecklace_56 (by decide) ?_
      exact J60 Mh Mn Mt Mw x1 x2 y0 (1 : Int32) hf _ _ hP hS _ (lv_sub hl [1, 2, 3, 0] rfl)
  have J28 : ∀ (Mh : Int32) (Mn : Int32) (Mt : (Nat → Int32)) (Mw : (Nat → Int32)) (x1 : Int32) (x2 : Int32) (x3 : Int32) (y0 : Int32), fX9_loadNecklace_J28 N Mm Mh Mn Mt Mw x1 x2 x3 y0 = some (r0, Mh9, Mn9, Mt9, Mw9) → ∀ (H : Heap) (locs : List Loc), va_P D vwCl (w_14_15_20 q cI cJ cD Mh Mn Mm Mt Mw) H → va_S (gA q [14, 15, 20]) s.heap H locs → ∀ ls : Array Slot, lv_has ls 7 [(0, .ref (q 14)), (1, .int x1), (2, .int x2), (3, .int x3)] → W p l e (headSpec wsX9_loadNecklace rX9_loadNecklace).room s m ([.ref (q 14), .int p1, .int p2, .int p3] : List Value).toArray below meth c H locs 0 0 (MQ below (gQ D (some (.int r0)) (w_14_15_20 q cI cJ cD Mh9 Mn9 Mm Mt9 Mw9) (gA q [14, 15, 20])) ([.ref (q 14), .int p1, .int p2, .int p3] : List Value).toArray s 0 0 (gA q [14, 15, 20])) (F0 m 28 ls [.int y0]) := by
    intro Mh Mn Mt Mw x1 x2 x3 y0 hf H locs hP hS ls hl
    unfold fX9_loadNecklace_J28 at hf
    refine lv_istore (lv' := [(4, .int y0), (0, .ref (q 14)), (1, .int x1), (2, .int x2), (3, .int x3)]) hx hb dX9_loadNecklace_28 hl (by decide) rfl (fun ls hl => ?_)
    refine lv_iload hx hb dX9_loadNecklace_30 (lv_at hl 0 rfl) ?_
    refine lv_if_eq (tgt := 45) hx hb dX9_loadNecklace_32 (by decide) (fun c_6 => ?_) (fun c_6 => ?_)
    · have hf := (if_pos c_6).symm.trans hf
      refine lv_iconst (v := (-1 : Int32)) hx hb dX9_loadNecklace_45 (by decide) ?_
      exact J46 Mh Mn Mt Mw x1 x2 (-1 : Int32) hf _ _ hP hS _ (lv_sub hl [1, 2, 3] rfl)
    · have hf := (if_neg c_6).symm.trans hf
      refine lv_aload_n hx hb dX9_loadNecklace_35 rfl (lv_at hl 1 rfl) ?_
      refine lv_iload_n hx hb dX9_loadNecklace_36 rfl (lv_at hl 2 rfl) ?_
      refine lv_iload_n hx hb dX9_loadNecklace_37 rfl (lv_at hl 3 rfl) ?_
      refine lv_iload_n hx hb dX9_loadNecklace_38 rfl (lv_at hl 4 rfl) ?_
      obtain ⟨⟨r39, Mw39⟩, hc, hf⟩ := bn_some hf
      try dsimp only at hf
      refine g_call0 (ws' := (w_14_15_20 q cI cJ cD Mh Mn Mm Mt Mw39)) (st1 := [.int r39]) hq [14, 15, 20] [14, 20] [.inl 0, .inr 1, .inl 1] (va_runV (As := [.int x1, .int x2, .int x3]) (rest := []) ⟨hx, hb, hml, hown, hts⟩ (kX9_necklaceWith l D cI cJ cD q hq N Mh Mn Mm Mw x1 x2 x3 r39 Mw39 hc) (cwV 3 hts gX9_loadNecklace_X9_necklaceWith rfl rfl rfl (by decide +kernel) ⟨(Nat.le_of_ble_eq_true rfl), (Nat.le_of_ble_eq_true rfl)⟩) ⟨gP_blind, va_recv hE.1 hP (ci := 7) (q0 := 0) rfl rfl, fun U hU hW => ⟨rfl, by rw [hU]; exact hP.sub (ws' := (w_14_20 q cI cJ cD Mh Mn Mm Mw)) [0, 2] rfl, gEv.warm hW hE⟩⟩ rfl rfl hl.1 rfl (lv_room (Nat.le_of_ble_eq_true rfl)) dX9_loadNecklace_39 ⟨Nat.zero_le _, Nat.zero_le _⟩) hP hS (gSub rfl) rfl rfl rfl rfl rfl (fun H locs hP hS => ?_)
      refine lv_goto (tgt := 46) hx hb dX9_loadNecklace_42 (by decide) ?_
      exact J46 Mh Mn Mt Mw39 x1 x2 r39 hf _ _ hP hS _ (lv_sub hl [1, 2, 3] rfl)
  have J27 : ∀ (Mh : Int32) (Mn : Int32) (Mt : (Nat → Int32)) (Mw : (Nat → Int32)) (x1 : Int32) (x2 : Int32) (x3 : Int32), fX9_loadNecklace_J27 N Mm Mh Mn Mt Mw x1 x2 x3 = some (r0, Mh9, Mn9, Mt9, Mw9) → ∀ (H : Heap) (locs : List Loc), va_P D vwCl (w_14_15_20 q cI cJ cD Mh Mn Mm Mt Mw) H → va_S (gA q [14, 15, 20]) s.heap H locs → ∀ ls : Array Slot, lv_has ls 7 [(0, .ref (q 14)), (1, .int x1), (2, .int x2), (3, .int x3)] → W p l e (headSpec wsX9_loadNecklace rX9_loadNecklace).room s m ([.ref (q 14), .int p1, .int p2, .int p3] : List Value).toArray below meth c H locs 0 0 (MQ below (gQ D (some (.int r0)) (w_14_15_20 q cI cJ cD Mh9 Mn9 Mm Mt9 Mw9) (gA q [14, 15, 20])) ([.ref (q 14), .int p1, .int p2, .int p3] : List Value).toArray s 0 0 (gA q [14, 15, 20])) (F0 m 27 ls []) := by
    intro Mh Mn Mt Mw x1 x2 x3 hf H locs hP hS ls hl
    unfold fX9_loadNecklace_J27 at hf
    refine lv_iconst (v := (0 : Int32)) hx hb dX9_loadNecklace_27 (by decide) ?_
    exact J28 Mh Mn Mt Mw x1 x2 x3 (0 : Int32) hf _ _ hP hS _ (lv_sub hl [0, 1, 2, 3] rfl)
  unfold fX9_loadNecklace at hf
  refine lv_iload_n hx hb dX9_loadNecklace_0 rfl (lv_at hl 1 rfl) ?_
  refine lv_iconst (v := (1 : Int32)) hx hb dX9_loadNecklace_1 (by decide) ?_
  refine lv_iconst (v := (4 : Int32)) hx hb dX9_loadNecklace_2 (by decide) ?_
  obtain ⟨r3, hc, hf⟩ := bn_some hf
  try dsimp only at hf
  refine g_call0 (ws' := (w_14_15_20 q cI cJ cD Mh Mn Mm Mt Mw)) (st1 := [.int r3]) hq [14, 15, 20] [] [.inr 0, .inr 1, .inr 2] (va_runS (As := [.int p1, .int (1 : Int32), .int (4 : Int32)]) (rest := []) ⟨hx, hb, hml, hown, hts⟩ (kX9_in l D cI cJ cD q hq N p1 (1 : Int32) (4 : Int32) r3 hc) (va_cwS 3 hts gX9_loadNecklace_X9_in rfl rfl rfl (by decide +kernel) ⟨(Nat.le_of_ble_eq_true rfl), (Nat.le_of_ble_eq_true rfl)⟩) ⟨gP_blind, fun U hU hW => ⟨rfl, by rw [hU]; exact hP.sub (ws' := (w_0none q cI cJ cD)) [] rfl, gEv.warm hW hE⟩⟩ rfl rfl hl.1 rfl (lv_room (Nat.le_of_ble_eq_true rfl)) dX9_loadNecklace_3 ⟨Nat.zero_le _, Nat.zero_le _⟩) hP hS (gSub rfl) rfl rfl rfl rfl rfl (fun H locs hP hS => ?_)
  refine lv_if_eq (tgt := 27) hx hb dX9_loadNecklace_6 (by decide) (fun c_7 => ?_) (fun c_7 => ?_)
  · have hf := (if_pos c_7).symm.trans hf
    exact J27 Mh Mn Mt Mw p1 p2 p3 hf _ _ hP hS _ (lv_sub hl [0, 1, 2, 3] rfl)
  · have hf := (if_neg c_7).symm.trans hf
    refine lv_iload_n hx hb dX9_loadNecklace_9 rfl (lv_at hl 2 rfl) ?_
    refine lv_iconst (v := (1 : Int32)) hx hb dX9_loadNecklace_10 (by decide) ?_
    refine lv_bipush (v := (8 : Int32)) hx hb dX9_loadNecklace_11 (by decide) ?_
    obtain ⟨r13, hc, hf⟩ := bn_some hf
    try dsimp only at hf
    refine g_call0 (ws' := (w_14_15_20 q cI cJ cD Mh Mn Mm Mt Mw)) (st1 := [.int r13]) hq [14, 15, 20] [] [.inr 0, .inr 1, .inr 2] (va_runS (As := [.int p2, .int (1 : Int32), .int (8 : Int32)]) (rest := []) ⟨hx, hb, hml, hown, hts⟩ (kX9_in l D cI cJ cD q hq N p2 (1 : Int32) (8 : Int32) r13 hc) (va_cwS 3 hts gX9_loadNecklace_X9_in rfl rfl rfl (by decide +kernel) ⟨(Nat.le_of_ble_eq_true rfl), (Nat.le_of_ble_eq_true rfl)⟩) ⟨gP_blind, fun U hU hW => ⟨rfl, by rw [hU]; exact hP.sub (ws' := (w_0none q cI cJ cD)) [] rfl, gEv.warm hW hE⟩⟩ rfl rfl hl.1 rfl (lv_room (Nat.le_of_ble_eq_true rfl)) dX9_loadNecklace_13 ⟨Nat.zero_le _, Nat.zero_le _⟩) hP hS (gSub rfl) rfl rfl rfl rfl rfl (fun H locs hP hS => ?_)
    refine lv_if_eq (tgt := 27) hx hb dX9_loadNecklace_16 (by decide) (fun c_8 => ?_) (fun c_8 => ?_)
    · have hf := (if_pos c_8).symm.trans hf
      exact J27 Mh Mn Mt Mw p1 p2 p3 hf _ _ hP hS _ (lv_sub hl [0, 1, 2, 3] rfl)
    · have hf := (if_neg c_8).symm.trans hf
      refine lv_iload_n hx hb dX9_loadNecklace_19 rfl (lv_at hl 3 rfl) ?_
      refine lv_if_lt (tgt := 27) hx hb dX9_loadNecklace_20 (by decide) (fun c_9 => ?_) (fun c_9 => ?_)
      · have hf := (if_pos c_9).symm.trans hf
        exact J27 Mh Mn Mt Mw p1 p2 p3 hf _ _ hP hS _ (lv_sub hl [0, 1, 2, 3] rfl)
      · have hf := (if_neg c_9).symm.trans hf
        refine lv_iconst (v := (1 : Int32)) hx hb dX9_loadNecklace_23 (by decide) ?_
        refine lv_goto (tgt := 28) hx hb dX9_loadNecklace_24 (by decide) ?_
        exact J28 Mh Mn Mt Mw p1 p2 p3 (1 : Int32) hf _ _ hP hS _ (lv_sub hl [0, 1, 2, 3] rfl)
set_option maxHeartbeats 4000000 in
set_option maxRecDepth 100000 in
theorem kX9_length (l : Launch) (D : va_G) (cI cJ cD : ClassId) (q : Nat → Nat) (hq : gInj q) (N : Nat) (Mh : Int32) (Mn : Int32) (Mm : Int32) (r0 : Int32) (Mh9 : Int32) (hf : fX9_length N Mh Mn Mm = some (r0, Mh9)) : Met l yX9_length wsX9_length rX9_length (gP D cI cJ cD [.ref (q 14)] (w_14 q cI cJ cD Mh Mn Mm)) (gQ D (some (.int r0)) (w_14 q cI cJ cD Mh9 Mn Mm) (gA q [14])) 0 0 (gA q [14]) := by
  refine Met.ofW (cc := cX9_length) (maxL := 1) (ret := (some .int)) (by decide +kernel) rfl ?_
  intro p e s m args below meth c s₁ B hml hv
  obtain ⟨rfl, hP, hE⟩ := hv
  have hx := B.exec
  have hb := B.bytes
  have hr := B.returns
  have hts := atoms_spec (ws := wsX9_length) B.pre
  have hown : s.vm.findClass RX9 = some m.cls := findClass_of_methodNamed B.named
  have hlocks := B.notSynchronized
  have hS : va_S (gA q [14]) s.heap s.heap [] := va_S.rf
  have hl := lv_entry ([.ref (q 14)]) (n := 1) (Nat.le_of_ble_eq_true rfl)
  rw [lg_entry_eq]
  generalize (lg_sl ([.ref (q 14)]) ++ List.replicate (1 - (lg_sl ([.ref (q 14)])).length) Slot.unset).toArray = ls at hl ⊢
  have hl : lv_has ls 1 [(0, .ref (q 14))] := hl
  have hDm : ∀ (z0 : Int32) (z1 : Int32) (z2 : Int32), va_D (gA q [14]) (w_14 q cI cJ cD z0 z1 z2) := fun _ _ _ => gD_of hq [14] rfl rfl rfl (fun k h => ⟨k, h, rfl⟩)
  have hk35 := hts (.fieldLink RX9 35 "LyndonTextModel" "thrown" "I") (by decide +kernel)
  have hk39 := hts (.fieldLink RX9 39 "LyndonTextModel" "length" "I") (by decide +kernel)
  have huX9 : ∀ w ∈ u_ws RX9 TX9 11, w ∈ wsX9_length := by decide +kernel
  unfold fX9_length at hf
  refine lv_aload_n hx hb dX9_length_0 rfl (lv_at hl 0 rfl) ?_
  refine lv_iconst (v := (0 : Int32)) hx hb dX9_length_1 (by decide) ?_
  refine va_put (D := D) (ci := 7) (v := .int (0 : Int32)) (ty := .int) (C := RX9) (T := TX9) (N := 11) hx hb hts huX9 tyX9 tyX9_ok nmX9 hown hE.1 hP (hDm Mh Mn Mm) hS 0 rfl rfl 0 (by decide) hk35 (fun _ h9 => h9) rfl (by decide +kernel) rfl rfl (Nat.le_of_ble_eq_true rfl) dX9_length_2 (fun H locs hP _ hS => ?_)
  have hP : va_P D vwCl (w_14 q cI cJ cD (0 : Int32) Mn Mm) H := hP
  refine lv_aload_n hx hb dX9_length_5 rfl (lv_at hl 0 rfl) ?_
  refine va_get (D := D) (ci := 7) (v := .int Mn) (C := RX9) (T := TX9) (N := 11) hx hb hts huX9 hown hE.1 hP 0 rfl rfl 1 (by decide) hk39 (fun _ h9 => h9) rfl dX9_length_6 ?_
  cases hf
  exact W.iret hx hb hr (fun t ht hW => ⟨⟨rfl, by rw [ht]; exact hP⟩, hS.F ht⟩) hS.2.2 dX9_length_9
set_option maxHeartbeats 4000000 in
set_option maxRecDepth 100000 in
theorem kX9_letterAt (l : Launch) (D : va_G) (cI cJ cD : ClassId) (q : Nat → Nat) (hq : gInj q) (N : Nat) (Mh : Int32) (Mn : Int32) (Mm : Int32) (Mt : (Nat → Int32)) (p1 : Int32) (r0 : Int32) (Mh9 : Int32) (hf : fX9_letterAt N Mh Mn Mm Mt p1 = some (r0, Mh9)) : Met l yX9_letterAt wsX9_letterAt rX9_letterAt (gP D cI cJ cD [.ref (q 14), .int p1] (w_14_15 q cI cJ cD Mh Mn Mm Mt)) (gQ D (some (.int r0)) (w_14_15 q cI cJ cD Mh9 Mn Mm Mt) (gA q [14, 15])) 0 0 (gA q [14, 15]) := by
  refine Met.ofW (cc := cX9_letterAt) (maxL := 2) (ret := (some .int)) (by decide +kernel) rfl ?_
  intro p e s m args below meth c s₁ B hml hv
  obtain ⟨rfl, hP, hE⟩ := hv
  have hx := B.exec
  have hb := B.bytes
  have hr := B.returns
  have hts := atoms_spec (ws := wsX9_letterAt) B.pre
  have hown : s.vm.findClass RX9 = some m.cls := findClass_of_methodNamed B.named
  have hlocks := B.notSynchronized
  have hS : va_S (gA q [14, 15]) s.heap s.heap [] := va_S.rf
  have hl := lv_entry ([.ref (q 14), .int p1]) (n := 2) (Nat.le_of_ble_eq_true rfl)
  rw [lg_entry_eq]
  generalize (lg_sl ([.ref (q 14), .int p1]) ++ List.replicate (2 - (lg_sl ([.ref (q 14), .int p1])).length) Slot.unset).toArray = ls at hl ⊢
  have hl : lv_has ls 2 [(0, .ref (q 14)), (1, .int p1)] := hl
  have hk7 := hts (.fieldLink RX9 7 "LyndonTextModel" "text" "[I") (by decide +kernel)
  have huX9 : ∀ w ∈ u_ws RX9 TX9 11, w ∈ wsX9_letterAt := by decide +kernel
  have J30 : ∀ (Mh : Int32) (y0 : Int32), fX9_letterAt_J30 N Mn Mm Mt Mh y0 = some (r0, Mh9) → ∀ (H : Heap) (locs : List Loc), va_P D vwCl (w_14_15 q cI cJ cD Mh Mn Mm Mt) H → va_S (gA q [14, 15]) s.heap H locs → ∀ ls : Array Slot, lv_has ls 2 [] → W p l e (headSpec wsX9_letterAt rX9_letterAt).room s m ([.ref (q 14), .int p1] : List Value).toArray below meth c H locs 0 0 (MQ below (gQ D (some (.int r0)) (w_14_15 q cI cJ cD Mh9 Mn Mm Mt) (gA q [14, 15])) ([.ref (q 14), .int p1] : List Value).toArray s 0 0 (gA q [14, 15])) (F0 m 30 ls [.int y0]) := by
    intro Mh y0 hf H locs hP hS ls hl
    unfold fX9_letterAt_J30 at hf
    cases hf
    exact W.iret hx hb hr (fun t ht hW => ⟨⟨rfl, by rw [ht]; exact hP⟩, hS.F ht⟩) hS.2.2 dX9_letterAt_30
  have J14 : ∀ (Mh : Int32) (x1 : Int32) (y1 : Int32), fX9_letterAt_J14 N Mn Mm Mt Mh x1 y1 = some (r0, Mh9) → ∀ (H : Heap) (locs : List Loc), va_P D vwCl (w_14_15 q cI cJ cD Mh Mn Mm Mt) H → va_S (gA q [14, 15]) s.heap H locs → ∀ ls : Array Slot, lv_has ls 2 [(0, .ref (q 14)), (1, .int x1)] → W p l e (headSpec wsX9_letterAt rX9_letterAt).room s m ([.ref (q 14), .int p1] : List Value).toArray below meth c H locs 0 0 (MQ below (gQ D (some (.int r0)) (w_14_15 q cI cJ cD Mh9 Mn Mm Mt) (gA q [14, 15])) ([.ref (q 14), .int p1] : List Value).toArray s 0 0 (gA q [14, 15])) (F0 m 14 ls [.int y1, .ref (q 14)]) := by
    intro Mh x1 y1 hf H locs hP hS ls hl
    unfold fX9_letterAt_J14 at hf
    obtain ⟨⟨r14, Mh14⟩, hc, hf⟩ := bn_some hf
    try dsimp only at hf
    refine g_call0 (ws' := (w_14_15 q cI cJ cD Mh14 Mn Mm Mt)) (st1 := [.int r14]) hq [14, 15] [14] [.inl 0, .inr 1] (va_runV (As := [.int y1]) (rest := []) ⟨hx, hb, hml, hown, hts⟩ (kX9_goesWell l D cI cJ cD q hq N Mh Mn Mm y1 r14 Mh14 hc) (cwV 1 hts gX9_letterAt_X9_goesWell rfl rfl rfl (by decide +kernel) ⟨(Nat.le_of_ble_eq_true rfl), (Nat.le_of_ble_eq_true rfl)⟩) ⟨gP_blind, va_recv hE.1 hP (ci := 7) (q0 := 0) rfl rfl, fun U hU hW => ⟨rfl, by rw [hU]; exact hP.sub (ws' := (w_14 q cI cJ cD Mh Mn Mm)) [0] rfl, gEv.warm hW hE⟩⟩ rfl rfl hl.1 rfl (lv_room (Nat.le_of_ble_eq_true rfl)) dX9_letterAt_14 ⟨Nat.zero_le _, Nat.zero_le _⟩) hP hS (gSub rfl) rfl rfl rfl rfl rfl (fun H locs hP hS => ?_)
    refine lv_if_eq (tgt := 29) hx hb dX9_letterAt_17 (by decide) (fun c_1 => ?_) (fun c_1 => ?_)
    · have hf := (if_pos c_1).symm.trans hf
      refine lv_iconst (v := (0 : Int32)) hx hb dX9_letterAt_29 (by decide) ?_
      exact J30 Mh14 (0 : Int32) hf _ _ hP hS _ (lv_sub hl [] rfl)
    · have hf := (if_neg c_1).symm.trans hf
      refine lv_aload_n hx hb dX9_letterAt_20 rfl (lv_at hl 0 rfl) ?_
      refine va_get (D := D) (ci := 7) (v := .ref (q 15)) (C := RX9) (T := TX9) (N := 11) hx hb hts huX9 hown hE.1 hP 0 rfl rfl 2 (by decide) hk7 (fun _ h9 => h9) rfl dX9_letterAt_21 ?_
      refine lv_iload_n hx hb dX9_letterAt_24 rfl (lv_at hl 1 rfl) ?_
      obtain ⟨g_2, hf⟩ := gd_some hf
      refine va_iald hx hb hE.1 hP 1 0 rfl rfl (inb_in g_2) dX9_letterAt_25 ?_
      refine lv_goto (tgt := 30) hx hb dX9_letterAt_26 (by decide) ?_
      exact J30 Mh14 (Mt (x1).toNatClampNeg) hf _ _ hP hS _ (lv_sub hl [] rfl)
  unfold fX9_letterAt at hf
  refine lv_aload_n hx hb dX9_letterAt_0 rfl (lv_at hl 0 rfl) ?_
  refine lv_aload_n hx hb dX9_letterAt_1 rfl (lv_at hl 0 rfl) ?_
  refine lv_iload_n hx hb dX9_letterAt_2 rfl (lv_at hl 1 rfl) ?_
  obtain ⟨r3, hc, hf⟩ := bn_some hf
  try dsimp only at hf
  refine g_call0 (ws' := (w_14_15 q cI cJ cD Mh Mn Mm Mt)) (st1 := [.int r3, .ref (q 14)]) hq [14, 15] [14] [.inl 0, .inr 1] (va_runV (As := [.int p1]) (rest := [.ref (q 14)]) ⟨hx, hb, hml, hown, hts⟩ (kX9_isPlace l D cI cJ cD q hq N Mh Mn Mm p1 r3 hc) (cwV 1 hts gX9_letterAt_X9_isPlace rfl rfl rfl (by decide +kernel) ⟨(Nat.le_of_ble_eq_true rfl), (Nat.le_of_ble_eq_true rfl)⟩) ⟨gP_blind, va_recv hE.1 hP (ci := 7) (q0 := 0) rfl rfl, fun U hU hW => ⟨rfl, by rw [hU]; exact hP.sub (ws' := (w_14 q cI cJ cD Mh Mn Mm)) [0] rfl, gEv.warm hW hE⟩⟩ rfl rfl hl.1 rfl (lv_room (Nat.le_of_ble_eq_true rfl)) dX9_letterAt_3 ⟨Nat.zero_le _, Nat.zero_le _⟩) hP hS (gSub rfl) rfl rfl rfl rfl rfl (fun H locs hP hS => ?_)
  refine lv_if_eq (tgt := 13) hx hb dX9_letterAt_6 (by decide) (fun c_3 => ?_) (fun c_3 => ?_)
  · have hf := (if_pos c_3).symm.trans hf
    refine lv_iconst (v := (1 : Int32)) hx hb dX9_letterAt_13 (by decide) ?_
    exact J14 Mh p1 (1 : Int32) hf _ _ hP hS _ (lv_sub hl [0, 1] rfl)
  · have hf := (if_neg c_3).symm.trans hf
    refine lv_iconst (v := (0 : Int32)) hx hb dX9_letterAt_9 (by decide) ?_
    refine lv_goto (tgt := 14) hx hb dX9_letterAt_10 (by decide) ?_
    exact J14 Mh p1 (0 : Int32) hf _ _ hP hS _ (lv_sub hl [0, 1] rfl)
set_option maxHeartbeats 4000000 in
set_option maxRecDepth 100000 in
theorem kX9_same (l : Launch) (D : va_G) (cI cJ cD : ClassId) (q : Nat → Nat) (hq : gInj q) (N : Nat) (Mh : Int32) (Mn : Int32) (Mm : Int32) (Mt : (Nat → Int32)) (p1 : Int32) (p2 : Int32) (p3 : Int32) (p4 : Int32) (r0 : Int32) (hf : fX9_same N Mh Mn Mm Mt p1 p2 p3 p4 = some r0) : Met l yX9_same wsX9_same rX9_same (gP D cI cJ cD [.ref (q 14), .int p1, .int p2, .int p3, .int p4] (w_14_15 q cI cJ cD Mh Mn Mm Mt)) (gQ D (some (.int r0)) (w_14_15 q cI cJ cD Mh Mn Mm Mt) (gA q [14, 15])) 0 0 (gA q [14, 15]) := by
  refine Met.ofW (cc := cX9_same) (maxL := 6) (ret := (some .int)) (by decide +kernel) rfl ?_
  intro p e s m args below meth c s₁ B hml hv
  obtain ⟨rfl, hP, hE⟩ := hv
  have hx := B.exec
  have hb := B.bytes
  have hr := B.returns
  have hts := atoms_spec (ws := wsX9_same) B.pre
  have hown : s.vm.findClass RX9 = some m.cls := findClass_of_methodNamed B.named
  have hlocks := B.notSynchronized
  have hS : va_S (gA q [14, 15]) s.heap s.heap [] := va_S.rf
  have hl := lv_entry ([.ref (q 14), .int p1, .int p2, .int p3, .int p4]) (n := 6) (Nat.le_of_ble_eq_true rfl)
  rw [lg_entry_eq]
  generalize (lg_sl ([.ref (q 14), .int p1, .int p2, .int p3, .int p4]) ++ List.replicate (6 - (lg_sl ([.ref (q 14), .int p1, .int p2, .int p3, .int p4])).length) Slot.unset).toArray = ls at hl ⊢
  have hl : lv_has ls 6 [(0, .ref (q 14)), (1, .int p1), (2, .int p2), (3, .int p3), (4, .int p4)] := hl
  have hk7 := hts (.fieldLink RX9 7 "LyndonTextModel" "text" "[I") (by decide +kernel)
  have huX9 : ∀ w ∈ u_ws RX9 TX9 11, w ∈ wsX9_same := by decide +kernel
  have J47 : ∀ (x5 : Int32), fX9_same_J47 N Mh Mn Mm Mt x5 = some r0 → ∀ (H : Heap) (locs : List Loc), va_P D vwCl (w_14_15 q cI cJ cD Mh Mn Mm Mt) H → va_S (gA q [14, 15]) s.heap H locs → ∀ ls : Array Slot, lv_has ls 6 [(5, .int x5)] → W p l e (headSpec wsX9_same rX9_same).room s m ([.ref (q 14), .int p1, .int p2, .int p3, .int p4] : List Value).toArray below meth c H locs 0 0 (MQ below (gQ D (some (.int r0)) (w_14_15 q cI cJ cD Mh Mn Mm Mt) (gA q [14, 15])) ([.ref (q 14), .int p1, .int p2, .int p3, .int p4] : List Value).toArray s 0 0 (gA q [14, 15])) (F0 m 47 ls []) := by
    intro x5 hf H locs hP hS ls hl
    unfold fX9_same_J47 at hf
    refine lv_iload hx hb dX9_same_47 (lv_at hl 0 rfl) ?_
    cases hf
    exact W.iret hx hb hr (fun t ht hW => ⟨⟨rfl, by rw [ht]; exact hP⟩, hS.F ht⟩) hS.2.2 dX9_same_49
  have K3 : ∀ (n3 : Nat) (x1 : Int32) (x2 : Int32) (x3 : Int32) (x4 : Int32) (x5 : Int32), fX9_same_H3 N Mh Mn Mm Mt n3 x1 x2 x3 x4 x5 = some r0 → ∀ (H : Heap) (locs : List Loc), va_P D vwCl (w_14_15 q cI cJ cD Mh Mn Mm Mt) H → va_S (gA q [14, 15]) s.heap H locs → ∀ ls : Array Slot, lv_has ls 6 [(0, .ref (q 14)), (1, .int x1), (2, .int x2), (3, .int x3), (4, .int x4), (5, .int x5)] → W p l e (headSpec wsX9_same rX9_same).room s m ([.ref (q 14), .int p1, .int p2, .int p3, .int p4] : List Value).toArray below meth c H locs 0 0 (MQ below (gQ D (some (.int r0)) (w_14_15 q cI cJ cD Mh Mn Mm Mt) (gA q [14, 15])) ([.ref (q 14), .int p1, .int p2, .int p3, .int p4] : List Value).toArray s 0 0 (gA q [14, 15])) (F0 m 3 ls []) := by
    intro n3
    induction n3 with
    | zero =>
      intro x1 x2 x3 x4 x5 hf
      exact nomatch (show (none : Option Int32) = some r0 from hf)
    | succ n3 ih3 =>
      intro x1 x2 x3 x4 x5 hf H locs hP hS ls hl
      have hf : fX9_same_B3 N Mh Mn Mm Mt (fX9_same_H3 N Mh Mn Mm Mt n3) x1 x2 x3 x4 x5 = some r0 := hf
      unfold fX9_same_B3 at hf
      refine lv_iload_n hx hb dX9_same_3 rfl (lv_at hl 1 rfl) ?_
      refine lv_iload hx hb dX9_same_4 (lv_at hl 5 rfl) ?_
      refine lv_iadd hx hb dX9_same_6 ?_
      refine lv_iload_n hx hb dX9_same_7 rfl (lv_at hl 2 rfl) ?_
      refine lv_icmp_ge (tgt := 47) hx hb dX9_same_8 (by decide) (fun c_1 => ?_) (fun c_1 => ?_)
      · have hf := (if_pos c_1).symm.trans hf
        exact J47 x5 hf _ _ hP hS _ (lv_sub hl [5] rfl)
      · have hf := (if_neg c_1).symm.trans hf
        refine lv_iload_n hx hb dX9_same_11 rfl (lv_at hl 3 rfl) ?_
        refine lv_iload hx hb dX9_same_12 (lv_at hl 5 rfl) ?_
        refine lv_iadd hx hb dX9_same_14 ?_
        refine lv_iload hx hb dX9_same_15 (lv_at hl 4 rfl) ?_
        refine lv_icmp_ge (tgt := 47) hx hb dX9_same_17 (by decide) (fun c_2 => ?_) (fun c_2 => ?_)
        · have hf := (if_pos c_2).symm.trans hf
          exact J47 x5 hf _ _ hP hS _ (lv_sub hl [5] rfl)
        · have hf := (if_neg c_2).symm.trans hf
          refine lv_aload_n hx hb dX9_same_20 rfl (lv_at hl 0 rfl) ?_
          refine va_get (D := D) (ci := 7) (v := .ref (q 15)) (C := RX9) (T := TX9) (N := 11) hx hb hts huX9 hown hE.1 hP 0 rfl rfl 2 (by decide) hk7 (fun _ h9 => h9) rfl dX9_same_21 ?_
          refine lv_iload_n hx hb dX9_same_24 rfl (lv_at hl 1 rfl) ?_
          refine lv_iload hx hb dX9_same_25 (lv_at hl 5 rfl) ?_
          refine lv_iadd hx hb dX9_same_27 ?_
          obtain ⟨g_3, hf⟩ := gd_some hf
          refine va_iald hx hb hE.1 hP 1 0 rfl rfl (inb_in g_3) dX9_same_28 ?_
          refine lv_aload_n hx hb dX9_same_29 rfl (lv_at hl 0 rfl) ?_
          refine va_get (D := D) (ci := 7) (v := .ref (q 15)) (C := RX9) (T := TX9) (N := 11) hx hb hts huX9 hown hE.1 hP 0 rfl rfl 2 (by decide) hk7 (fun _ h9 => h9) rfl dX9_same_30 ?_
          refine lv_iload_n hx hb dX9_same_33 rfl (lv_at hl 3 rfl) ?_
          refine lv_iload hx hb dX9_same_34 (lv_at hl 5 rfl) ?_
          refine lv_iadd hx hb dX9_same_36 ?_
          obtain ⟨g_4, hf⟩ := gd_some hf
          refine va_iald hx hb hE.1 hP 1 0 rfl rfl (inb_in g_4) dX9_same_37 ?_
          refine lv_icmp_ne (tgt := 47) hx hb dX9_same_38 (by decide) (fun c_5 => ?_) (fun c_5 => ?_)
          · have hf := (if_neg c_5).symm.trans hf
            exact J47 x5 hf _ _ hP hS _ (lv_sub hl [5] rfl)
          · have hf := (if_pos c_5).symm.trans hf
            refine lv_iinc (v := (x5 + 1)) (lv' := [(5, .int (x5 + 1)), (0, .ref (q 14)), (1, .int x1), (2, .int x2), (3, .int x3), (4, .int x4)]) hx hb dX9_same_41 hl (k := 5) rfl rfl (by decide) rfl (fun ls hl => ?_)
            refine lv_goto (tgt := 3) hx hb dX9_same_44 (by decide) ?_
            exact ih3 x1 x2 x3 x4 (x5 + 1) hf _ _ hP hS _ (lv_sub hl [1, 2, 3, 4, 5, 0] rfl)
  unfold fX9_same at hf
  refine lv_iconst (v := (0 : Int32)) hx hb dX9_same_0 (by decide) ?_
  refine lv_istore (lv' := [(5, .int (0 : Int32)), (0, .ref (q 14)), (1, .int p1), (2, .int p2), (3, .int p3), (4, .int p4)]) hx hb dX9_same_1 hl (by decide) rfl (fun ls hl => ?_)
  exact K3 N p1 p2 p3 p4 (0 : Int32) hf _ _ hP hS _ (lv_sub hl [1, 2, 3, 4, 5, 0] rfl)
set_option maxHeartbeats 4000000 in
set_option maxRecDepth 100000 in
theorem kX9_order (l : Launch) (D : va_G) (cI cJ cD : ClassId) (q : Nat → Nat) (hq : gInj q) (N : Nat) (Mh : Int32) (Mn : Int32) (Mm : Int32) (Mt : (Nat → Int32)) (p1 : Int32) (p2 : Int32) (p3 : Int32) (p4 : Int32) (p5 : Int32) (r0 : Int32) (hf : fX9_order N Mh Mn Mm Mt p1 p2 p3 p4 p5 = some r0) : Met l yX9_order wsX9_order rX9_order (gP D cI cJ cD [.ref (q 14), .int p1, .int p2, .int p3, .int p4, .int p5] (w_14_15 q cI cJ cD Mh Mn Mm Mt)) (gQ D (some (.int r0)) (w_14_15 q cI cJ cD Mh Mn Mm Mt) (gA q [14, 15])) 0 0 (gA q [14, 15]) := by
  refine Met.ofW (cc := cX9_order) (maxL := 8) (ret := (some .int)) (by decide +kernel) rfl ?_
  intro p e s m args below meth c s₁ B hml hv
  obtain ⟨rfl, hP, hE⟩ := hv
  have hx := B.exec
  have hb := B.bytes
  have hr := B.returns
  have hts := atoms_spec (ws := wsX9_order) B.pre
  have hown : s.vm.findClass RX9 = some m.cls := findClass_of_methodNamed B.named
  have hlocks := B.notSynchronized
  have hS : va_S (gA q [14, 15]) s.heap s.heap [] := va_S.rf
  have hl := lv_entry ([.ref (q 14), .int p1, .int p2, .int p3, .int p4, .int p5]) (n := 8) (Nat.le_of_ble_eq_true rfl)
  rw [lg_entry_eq]
  generalize (lg_sl ([.ref (q 14), .int p1, .int p2, .int p3, .int p4, .int p5]) ++ List.replicate (8 - (lg_sl ([.ref (q 14), .int p1, .int p2, .int p3, .int p4, .int p5])).length) Slot.unset).toArray = ls at hl ⊢
  have hl : lv_has ls 8 [(0, .ref (q 14)), (1, .int p1), (2, .int p2), (3, .int p3), (4, .int p4), (5, .int p5)] := hl
  have hk7 := hts (.fieldLink RX9 7 "LyndonTextModel" "text" "[I") (by decide +kernel)
  have huX9 : ∀ w ∈ u_ws RX9 TX9 11, w ∈ wsX9_order := by decide +kernel
  have J62 : ∀ (y0 : Int32), fX9_order_J62 N Mh Mn Mm Mt y0 = some r0 → ∀ (H : Heap) (locs : List Loc), va_P D vwCl (w_14_15 q cI cJ cD Mh Mn Mm Mt) H → va_S (gA q [14, 15]) s.heap H locs → ∀ ls : Array Slot, lv_has ls 8 [] → W p l e (headSpec wsX9_order rX9_order).room s m ([.ref (q 14), .int p1, .int p2, .int p3, .int p4, .int p5] : List Value).toArray below meth c H locs 0 0 (MQ below (gQ D (some (.int r0)) (w_14_15 q cI cJ cD Mh Mn Mm Mt) (gA q [14, 15])) ([.ref (q 14), .int p1, .int p2, .int p3, .int p4, .int p5] : List Value).toArray s 0 0 (gA q [14, 15])) (F0 m 62 ls [.int y0]) := by
    intro y0 hf H locs hP hS ls hl
    unfold fX9_order_J62 at hf
    cases hf
    exact W.iret hx hb hr (fun t ht hW => ⟨⟨rfl, by rw [ht]; exact hP⟩, hS.F ht⟩) hS.2.2 dX9_order_62
  have J63 : ∀ (x1 : Int32) (x2 : Int32) (x3 : Int32) (x4 : Int32), fX9_order_J63 N Mh Mn Mm Mt x1 x2 x3 x4 = some r0 → ∀ (H : Heap) (locs : List Loc), va_P D vwCl (w_14_15 q cI cJ cD Mh Mn Mm Mt) H → va_S (gA q [14, 15]) s.heap H locs → ∀ ls : Array Slot, lv_has ls 8 [(1, .int x1), (2, .int x2), (3, .int x3), (4, .int x4)] → W p l e (headSpec wsX9_order rX9_order).room s m ([.ref (q 14), .int p1, .int p2, .int p3, .int p4, .int p5] : List Value).toArray below meth c H locs 0 0 (MQ below (gQ D (some (.int r0)) (w_14_15 q cI cJ cD Mh Mn Mm Mt) (gA q [14, 15])) ([.ref (q 14), .int p1, .int p2, .int p3, .int p4, .int p5] : List Value).toArray s 0 0 (gA q [14, 15])) (F0 m 63 ls []) := by
    intro x1 x2 x3 x4 hf H locs hP hS ls hl
    unfold fX9_order_J63 at hf
    refine lv_iload_n hx hb dX9_order_63 rfl (lv_at hl 1 rfl) ?_
    refine lv_iload_n hx hb dX9_order_64 rfl (lv_at hl 0 rfl) ?_
    refine lv_isub hx hb dX9_order_65 ?_
    refine lv_iload hx hb dX9_order_66 (lv_at hl 3 rfl) ?_
    refine lv_iload_n hx hb dX9_order_68 rfl (lv_at hl 2 rfl) ?_
    refine lv_isub hx hb dX9_order_69 ?_
    refine lv_isub hx hb dX9_order_70 ?_
    cases hf
    exact W.iret hx hb hr (fun t ht hW => ⟨⟨rfl, by rw [ht]; exact hP⟩, hS.F ht⟩) hS.2.2 dX9_order_71
  unfold fX9_order at hf
  refine lv_aload_n hx hb dX9_order_0 rfl (lv_at hl 0 rfl) ?_
  refine lv_iload_n hx hb dX9_order_1 rfl (lv_at hl 1 rfl) ?_
  refine lv_iload_n hx hb dX9_order_2 rfl (lv_at hl 2 rfl) ?_
  refine lv_iload_n hx hb dX9_order_3 rfl (lv_at hl 3 rfl) ?_
  refine lv_iload hx hb dX9_order_4 (lv_at hl 4 rfl) ?_
  obtain ⟨r6, hc, hf⟩ := bn_some hf
  try dsimp only at hf
  refine g_call0 (ws' := (w_14_15 q cI cJ cD Mh Mn Mm Mt)) (st1 := [.int r6]) hq [14, 15] [14, 15] [.inl 0, .inl 1] (va_runV (As := [.int p1, .int p2, .int p3, .int p4]) (rest := []) ⟨hx, hb, hml, hown, hts⟩ (kX9_same l D cI cJ cD q hq N Mh Mn Mm Mt p1 p2 p3 p4 r6 hc) (cwV 4 hts gX9_order_X9_same rfl rfl rfl (by decide +kernel) ⟨(Nat.le_of_ble_eq_true rfl), (Nat.le_of_ble_eq_true rfl)⟩) ⟨gP_blind, va_recv hE.1 hP (ci := 7) (q0 := 0) rfl rfl, fun U hU hW => ⟨rfl, by rw [hU]; exact hP.sub (ws' := (w_14_15 q cI cJ cD Mh Mn Mm Mt)) [0, 1] rfl, gEv.warm hW hE⟩⟩ rfl rfl hl.1 rfl (lv_room (Nat.le_of_ble_eq_true rfl)) dX9_order_6 ⟨Nat.zero_le _, Nat.zero_le _⟩) hP hS (gSub rfl) rfl rfl rfl rfl rfl (fun H locs hP hS => ?_)
  refine lv_istore (lv' := [(6, .int r6), (0, .ref (q 14)), (1, .int p1), (2, .int p2), (3, .int p3), (4, .int p4), (5, .int p5)]) hx hb dX9_order_9 hl (by decide) rfl (fun ls hl => ?_)
  refine lv_iload_n hx hb dX9_order_11 rfl (lv_at hl 2 rfl) ?_
  refine lv_iload hx hb dX9_order_12 (lv_at hl 0 rfl) ?_
  refine lv_iadd hx hb dX9_order_14 ?_
  refine lv_iload_n hx hb dX9_order_15 rfl (lv_at hl 3 rfl) ?_
  refine lv_icmp_ge (tgt := 63) hx hb dX9_order_16 (by decide) (fun c_1 => ?_) (fun c_1 => ?_)
  · have hf := (if_pos c_1).symm.trans hf
    exact J63 p1 p2 p3 p4 hf _ _ hP hS _ (lv_sub hl [2, 3, 4, 5] rfl)
  · have hf := (if_neg c_1).symm.trans hf
    refine lv_iload_n hx hb dX9_order_19 rfl (lv_at hl 4 rfl) ?_
    refine lv_iload hx hb dX9_order_20 (lv_at hl 0 rfl) ?_
    refine lv_iadd hx hb dX9_order_22 ?_
    refine lv_iload hx hb dX9_order_23 (lv_at hl 5 rfl) ?_
    refine lv_icmp_ge (tgt := 63) hx hb dX9_order_25 (by decide) (fun c_2 => ?_) (fun c_2 => ?_)
    · have hf := (if_pos c_2).symm.trans hf
      exact J63 p1 p2 p3 p4 hf _ _ hP hS _ (lv_sub hl [2, 3, 4, 5] rfl)
    · have hf := (if_neg c_2).symm.trans hf
      refine lv_aload_n hx hb dX9_order_28 rfl (lv_at hl 1 rfl) ?_
      refine va_get (D := D) (ci := 7) (v := .ref (q 15)) (C := RX9) (T := TX9) (N := 11) hx hb hts huX9 hown hE.1 hP 0 rfl rfl 2 (by decide) hk7 (fun _ h9 => h9) rfl dX9_order_29 ?_
      refine lv_iload_n hx hb dX9_order_32 rfl (lv_at hl 2 rfl) ?_
      refine lv_iload hx hb dX9_order_33 (lv_at hl 0 rfl) ?_
      refine lv_iadd hx hb dX9_order_35 ?_
      obtain ⟨g_3, hf⟩ := gd_some hf
      refine va_iald hx hb hE.1 hP 1 0 rfl rfl (inb_in g_3) dX9_order_36 ?_
      refine lv_aload_n hx hb dX9_order_37 rfl (lv_at hl 1 rfl) ?_
      refine va_get (D := D) (ci := 7) (v := .ref (q 15)) (C := RX9) (T := TX9) (N := 11) hx hb hts huX9 hown hE.1 hP 0 rfl rfl 2 (by decide) hk7 (fun _ h9 => h9) rfl dX9_order_38 ?_
      refine lv_iload_n hx hb dX9_order_41 rfl (lv_at hl 4 rfl) ?_
      refine lv_iload hx hb dX9_order_42 (lv_at hl 0 rfl) ?_
      refine lv_iadd hx hb dX9_order_44 ?_
      obtain ⟨g_4, hf⟩ := gd_some hf
      refine va_iald hx hb hE.1 hP 1 0 rfl rfl (inb_in g_4) dX9_order_45 ?_
      refine lv_isub hx hb dX9_order_46 ?_
      refine lv_istore (lv' := [(7, .int ((Mt ((p1 + r6)).toNatClampNeg) - (Mt ((p3 + r6)).toNatClampNeg))), (6, .int r6), (0, .ref (q 14)), (1, .int p1), (2, .int p2), (3, .int p3), (4, .int p4), (5, .int p5)]) hx hb dX9_order_47 hl (by decide) rfl (fun ls hl => ?_)
      refine lv_iload hx hb dX9_order_49 (lv_at hl 7 rfl) ?_
      refine lv_if_eq (tgt := 60) hx hb dX9_order_51 (by decide) (fun c_5 => ?_) (fun c_5 => ?_)
      · have hf := (if_pos c_5).symm.trans hf
        refine lv_iload hx hb dX9_order_60 (lv_at hl 0 rfl) ?_
        exact J62 ((Mt ((p1 + r6)).toNatClampNeg) - (Mt ((p3 + r6)).toNatClampNeg)) hf _ _ hP hS _ (lv_sub hl [] rfl)
      · have hf := (if_neg c_5).symm.trans hf
        refine lv_iload hx hb dX9_order_54 (lv_at hl 0 rfl) ?_
        refine lv_ineg hx hb dX9_order_56 ?_
        refine lv_goto (tgt := 62) hx hb dX9_order_57 (by decide) ?_
        exact J62 (-((Mt ((p1 + r6)).toNatClampNeg) - (Mt ((p3 + r6)).toNatClampNeg))) hf _ _ hP hS _ (lv_sub hl [] rfl)
set_option maxHeartbeats 4000000 in
set_option maxRecDepth 100000 in
theorem kX9_compare (l : Launch) (D : va_G) (cI cJ cD : ClassId) (q : Nat → Nat) (hq : gInj q) (N : Nat) (Mh : Int32) (Mn : Int32) (Mm : Int32) (Mt : (Nat → Int32)) (p1 : Int32) (p2 : Int32) (p3 : Int32) (p4 : Int32) (r0 : Int32) (Mh9 : Int32) (hf : fX9_compare N Mh Mn Mm Mt p1 p2 p3 p4 = some (r0, Mh9)) : Met l yX9_compare wsX9_compare rX9_compare (gP D cI cJ cD [.ref (q 14), .int p1, .int p2, .int p3, .int p4] (w_14_15 q cI cJ cD Mh Mn Mm Mt)) (gQ D (some (.int r0)) (w_14_15 q cI cJ cD Mh9 Mn Mm Mt) (gA q [14, 15])) 0 0 (gA q [14, 15]) := by
  refine Met.ofW (cc := cX9_compare) (maxL := 6) (ret := (some .int)) (by decide +kernel) rfl ?_
  intro p e s m args below meth c s₁ B hml hv
  obtain ⟨rfl, hP, hE⟩ := hv
  have hx := B.exec
  have hb := B.bytes
  have hr := B.returns
  have hts := atoms_spec (ws := wsX9_compare) B.pre
  have hown : s.vm.findClass RX9 = some m.cls := findClass_of_methodNamed B.named
  have hlocks := B.notSynchronized
  have hS : va_S (gA q [14, 15]) s.heap s.heap [] := va_S.rf
  have hl := lv_entry ([.ref (q 14), .int p1, .int p2, .int p3, .int p4]) (n := 6) (Nat.le_of_ble_eq_true rfl)
  rw [lg_entry_eq]
  generalize (lg_sl ([.ref (q 14), .int p1, .int p2, .int p3, .int p4]) ++ List.replicate (6 - (lg_sl ([.ref (q 14), .int p1, .int p2, .int p3, .int p4])).length) Slot.unset).toArray = ls at hl ⊢
  have hl : lv_has ls 6 [(0, .ref (q 14)), (1, .int p1), (2, .int p2), (3, .int p3), (4, .int p4)] := hl
  have J64 : ∀ (Mh : Int32) (y0 : Int32), fX9_compare_J64 N Mn Mm Mt Mh y0 = some (r0, Mh9) → ∀ (H : Heap) (locs : List Loc), va_P D vwCl (w_14_15 q cI cJ cD Mh Mn Mm Mt) H → va_S (gA q [14, 15]) s.heap H locs → ∀ ls : Array Slot, lv_has ls 6 [] → W p l e (headSpec wsX9_compare rX9_compare).room s m ([.ref (q 14), .int p1, .int p2, .int p3, .int p4] : List Value).toArray below meth c H locs 0 0 (MQ below (gQ D (some (.int r0)) (w_14_15 q cI cJ cD Mh9 Mn Mm Mt) (gA q [14, 15])) ([.ref (q 14), .int p1, .int p2, .int p3, .int p4] : List Value).toArray s 0 0 (gA q [14, 15])) (F0 m 64 ls [.int y0]) := by
    intro Mh y0 hf H locs hP hS ls hl
    unfold fX9_compare_J64 at hf
    cases hf
    exact W.iret hx hb hr (fun t ht hW => ⟨⟨rfl, by rw [ht]; exact hP⟩, hS.F ht⟩) hS.2.2 dX9_compare_64
  have J25 : ∀ (Mh : Int32) (x1 : Int32) (x2 : Int32) (x3 : Int32) (x4 : Int32) (y1 : Int32), fX9_compare_J25 N Mn Mm Mt Mh x1 x2 x3 x4 y1 = some (r0, Mh9) → ∀ (H : Heap) (locs : List Loc), va_P D vwCl (w_14_15 q cI cJ cD Mh Mn Mm Mt) H → va_S (gA q [14, 15]) s.heap H locs → ∀ ls : Array Slot, lv_has ls 6 [(0, .ref (q 14)), (1, .int x1), (2, .int x2), (3, .int x3), (4, .int x4)] → W p l e (headSpec wsX9_compare rX9_compare).room s m ([.ref (q 14), .int p1, .int p2, .int p3, .int p4] : List Value).toArray below meth c H locs 0 0 (MQ below (gQ D (some (.int r0)) (w_14_15 q cI cJ cD Mh9 Mn Mm Mt) (gA q [14, 15])) ([.ref (q 14), .int p1, .int p2, .int p3, .int p4] : List Value).toArray s 0 0 (gA q [14, 15])) (F0 m 25 ls [.int y1, .ref (q 14)]) := by
    intro Mh x1 x2 x3 x4 y1 hf H locs hP hS ls hl
    unfold fX9_compare_J25 at hf
    obtain ⟨⟨r25, Mh25⟩, hc, hf⟩ := bn_some hf
    try dsimp only at hf
    refine g_call0 (ws' := (w_14_15 q cI cJ cD Mh25 Mn Mm Mt)) (st1 := [.int r25]) hq [14, 15] [14] [.inl 0, .inr 1] (va_runV (As := [.int y1]) (rest := []) ⟨hx, hb, hml, hown, hts⟩ (kX9_goesWell l D cI cJ cD q hq N Mh Mn Mm y1 r25 Mh25 hc) (cwV 1 hts gX9_compare_X9_goesWell rfl rfl rfl (by decide +kernel) ⟨(Nat.le_of_ble_eq_true rfl), (Nat.le_of_ble_eq_true rfl)⟩) ⟨gP_blind, va_recv hE.1 hP (ci := 7) (q0 := 0) rfl rfl, fun U hU hW => ⟨rfl, by rw [hU]; exact hP.sub (ws' := (w_14 q cI cJ cD Mh Mn Mm)) [0] rfl, gEv.warm hW hE⟩⟩ rfl rfl hl.1 rfl (lv_room (Nat.le_of_ble_eq_true rfl)) dX9_compare_25 ⟨Nat.zero_le _, Nat.zero_le _⟩) hP hS (gSub rfl) rfl rfl rfl rfl rfl (fun H locs hP hS => ?_)
    refine lv_if_ne (tgt := 33) hx hb dX9_compare_28 (by decide) (fun c_1 => ?_) (fun c_1 => ?_)
    · have hf := (if_neg c_1).symm.trans hf
      refine lv_aload_n hx hb dX9_compare_33 rfl (lv_at hl 0 rfl) ?_
      refine lv_iload_n hx hb dX9_compare_34 rfl (lv_at hl 1 rfl) ?_
      refine lv_iload_n hx hb dX9_compare_35 rfl (lv_at hl 2 rfl) ?_
      refine lv_iload_n hx hb dX9_compare_36 rfl (lv_at hl 3 rfl) ?_
      refine lv_iload hx hb dX9_compare_37 (lv_at hl 4 rfl) ?_
      refine lv_iconst (v := (0 : Int32)) hx hb dX9_compare_39 (by decide) ?_
      obtain ⟨r40, hc, hf⟩ := bn_some hf
      try dsimp only at hf
      refine g_call0 (ws' := (w_14_15 q cI cJ cD Mh25 Mn Mm Mt)) (st1 := [.int r40]) hq [14, 15] [14, 15] [.inl 0, .inl 1] (va_runV (As := [.int x1, .int x2, .int x3, .int x4, .int (0 : Int32)]) (rest := []) ⟨hx, hb, hml, hown, hts⟩ (kX9_order l D cI cJ cD q hq N Mh25 Mn Mm Mt x1 x2 x3 x4 (0 : Int32) r40 hc) (cwV 5 hts gX9_compare_X9_order rfl rfl rfl (by decide +kernel) ⟨(Nat.le_of_ble_eq_true rfl), (Nat.le_of_ble_eq_true rfl)⟩) ⟨gP_blind, va_recv hE.1 hP (ci := 7) (q0 := 0) rfl rfl, fun U hU hW => ⟨rfl, by rw [hU]; exact hP.sub (ws' := (w_14_15 q cI cJ cD Mh25 Mn Mm Mt)) [0, 1] rfl, gEv.warm hW hE⟩⟩ rfl rfl hl.1 rfl (lv_room (Nat.le_of_ble_eq_true rfl)) dX9_compare_40 ⟨Nat.zero_le _, Nat.zero_le _⟩) hP hS (gSub rfl) rfl rfl rfl rfl rfl (fun H locs hP hS => ?_)
      refine lv_istore (lv' := [(5, .int r40), (0, .ref (q 14)), (1, .int x1), (2, .int x2), (3, .int x3), (4, .int x4)]) hx hb dX9_compare_43 hl (by decide) rfl (fun ls hl => ?_)
      refine lv_iload hx hb dX9_compare_45 (lv_at hl 0 rfl) ?_
      refine lv_if_ge (tgt := 54) hx hb dX9_compare_47 (by decide) (fun c_2 => ?_) (fun c_2 => ?_)
      · have hf := (if_pos c_2).symm.trans hf
        refine lv_iload hx hb dX9_compare_54 (lv_at hl 0 rfl) ?_
        refine lv_if_le (tgt := 63) hx hb dX9_compare_56 (by decide) (fun c_3 => ?_) (fun c_3 => ?_)
        · have hf := (if_pos c_3).symm.trans hf
          refine lv_iconst (v := (0 : Int32)) hx hb dX9_compare_63 (by decide) ?_
          exact J64 Mh25 (0 : Int32) hf _ _ hP hS _ (lv_sub hl [] rfl)
        · have hf := (if_neg c_3).symm.trans hf
          refine lv_iconst (v := (1 : Int32)) hx hb dX9_compare_59 (by decide) ?_
          refine lv_goto (tgt := 64) hx hb dX9_compare_60 (by decide) ?_
          exact J64 Mh25 (1 : Int32) hf _ _ hP hS _ (lv_sub hl [] rfl)
      · have hf := (if_neg c_2).symm.trans hf
        refine lv_iconst (v := (-1 : Int32)) hx hb dX9_compare_50 (by decide) ?_
        refine lv_goto (tgt := 64) hx hb dX9_compare_51 (by decide) ?_
        exact J64 Mh25 (-1 : Int32) hf _ _ hP hS _ (lv_sub hl [] rfl)
    · have hf := (if_pos c_1).symm.trans hf
      refine lv_iconst (v := (0 : Int32)) hx hb dX9_compare_31 (by decide) ?_
      cases hf
      exact W.iret hx hb hr (fun t ht hW => ⟨⟨rfl, by rw [ht]; exact hP⟩, hS.F ht⟩) hS.2.2 dX9_compare_32
  have J24 : ∀ (Mh : Int32) (x1 : Int32) (x2 : Int32) (x3 : Int32) (x4 : Int32), fX9_compare_J24 N Mn Mm Mt Mh x1 x2 x3 x4 = some (r0, Mh9) → ∀ (H : Heap) (locs : List Loc), va_P D vwCl (w_14_15 q cI cJ cD Mh Mn Mm Mt) H → va_S (gA q [14, 15]) s.heap H locs → ∀ ls : Array Slot, lv_has ls 6 [(0, .ref (q 14)), (1, .int x1), (2, .int x2), (3, .int x3), (4, .int x4)] → W p l e (headSpec wsX9_compare rX9_compare).room s m ([.ref (q 14), .int p1, .int p2, .int p3, .int p4] : List Value).toArray below meth c H locs 0 0 (MQ below (gQ D (some (.int r0)) (w_14_15 q cI cJ cD Mh9 Mn Mm Mt) (gA q [14, 15])) ([.ref (q 14), .int p1, .int p2, .int p3, .int p4] : List Value).toArray s 0 0 (gA q [14, 15])) (F0 m 24 ls [.ref (q 14)]) := by
    intro Mh x1 x2 x3 x4 hf H locs hP hS ls hl
    unfold fX9_compare_J24 at hf
    refine lv_iconst (v := (1 : Int32)) hx hb dX9_compare_24 (by decide) ?_
    exact J25 Mh x1 x2 x3 x4 (1 : Int32) hf _ _ hP hS _ (lv_sub hl [0, 1, 2, 3, 4] rfl)
  unfold fX9_compare at hf
  refine lv_aload_n hx hb dX9_compare_0 rfl (lv_at hl 0 rfl) ?_
  refine lv_aload_n hx hb dX9_compare_1 rfl (lv_at hl 0 rfl) ?_
  refine lv_iload_n hx hb dX9_compare_2 rfl (lv_at hl 1 rfl) ?_
  refine lv_iload_n hx hb dX9_compare_3 rfl (lv_at hl 2 rfl) ?_
  obtain ⟨r4, hc, hf⟩ := bn_some hf
  try dsimp only at hf
  refine g_call0 (ws' := (w_14_15 q cI cJ cD Mh Mn Mm Mt)) (st1 := [.int r4, .ref (q 14)]) hq [14, 15] [14] [.inl 0, .inr 1] (va_runV (As := [.int p1, .int p2]) (rest := [.ref (q 14)]) ⟨hx, hb, hml, hown, hts⟩ (kX9_isPart l D cI cJ cD q hq N Mh Mn Mm p1 p2 r4 hc) (cwV 2 hts gX9_compare_X9_isPart rfl rfl rfl (by decide +kernel) ⟨(Nat.le_of_ble_eq_true rfl), (Nat.le_of_ble_eq_true rfl)⟩) ⟨gP_blind, va_recv hE.1 hP (ci := 7) (q0 := 0) rfl rfl, fun U hU hW => ⟨rfl, by rw [hU]; exact hP.sub (ws' := (w_14 q cI cJ cD Mh Mn Mm)) [0] rfl, gEv.warm hW hE⟩⟩ rfl rfl hl.1 rfl (lv_room (Nat.le_of_ble_eq_true rfl)) dX9_compare_4 ⟨Nat.zero_le _, Nat.zero_le _⟩) hP hS (gSub rfl) rfl rfl rfl rfl rfl (fun H locs hP hS => ?_)
  refine lv_if_eq (tgt := 24) hx hb dX9_compare_7 (by decide) (fun c_4 => ?_) (fun c_4 => ?_)
  · have hf := (if_pos c_4).symm.trans hf
    exact J24 Mh p1 p2 p3 p4 hf _ _ hP hS _ (lv_sub hl [0, 1, 2, 3, 4] rfl)
  · have hf := (if_neg c_4).symm.trans hf
    refine lv_aload_n hx hb dX9_compare_10 rfl (lv_at hl 0 rfl) ?_
    refine lv_iload_n hx hb dX9_compare_11 rfl (lv_at hl 3 rfl) ?_
    refine lv_iload hx hb dX9_compare_12 (lv_at hl 4 rfl) ?_
    obtain ⟨r14, hc, hf⟩ := bn_some hf
    try dsimp only at hf
    refine g_call0 (ws' := (w_14_15 q cI cJ cD Mh Mn Mm Mt)) (st1 := [.int r14, .ref (q 14)]) hq [14, 15] [14] [.inl 0, .inr 1] (va_runV (As := [.int p3, .int p4]) (rest := [.ref (q 14)]) ⟨hx, hb, hml, hown, hts⟩ (kX9_isPart l D cI cJ cD q hq N Mh Mn Mm p3 p4 r14 hc) (cwV 2 hts gX9_compare_X9_isPart rfl rfl rfl (by decide +kernel) ⟨(Nat.le_of_ble_eq_true rfl), (Nat.le_of_ble_eq_true rfl)⟩) ⟨gP_blind, va_recv hE.1 hP (ci := 7) (q0 := 0) rfl rfl, fun U hU hW => ⟨rfl, by rw [hU]; exact hP.sub (ws' := (w_14 q cI cJ cD Mh Mn Mm)) [0] rfl, gEv.warm hW hE⟩⟩ rfl rfl hl.1 rfl (lv_room (Nat.le_of_ble_eq_true rfl)) dX9_compare_14 ⟨Nat.zero_le _, Nat.zero_le _⟩) hP hS (gSub rfl) rfl rfl rfl rfl rfl (fun H locs hP hS => ?_)
    refine lv_if_eq (tgt := 24) hx hb dX9_compare_17 (by decide) (fun c_5 => ?_) (fun c_5 => ?_)
    · have hf := (if_pos c_5).symm.trans hf
      exact J24 Mh p1 p2 p3 p4 hf _ _ hP hS _ (lv_sub hl [0, 1, 2, 3, 4] rfl)
    · have hf := (if_neg c_5).symm.trans hf
      refine lv_iconst (v := (0 : Int32)) hx hb dX9_compare_20 (by decide) ?_
      refine lv_goto (tgt := 25) hx hb dX9_compare_21 (by decide) ?_
      exact J25 Mh p1 p2 p3 p4 (0 : Int32) hf _ _ hP hS _ (lv_sub hl [0, 1, 2, 3, 4] rfl)
set_option maxHeartbeats 4000000 in
set_option maxRecDepth 100000 in
theorem kX9_commonPrefix (l : Launch) (D : va_G) (cI cJ cD : ClassId) (q : Nat → Nat) (hq : gInj q) (N : Nat) (Mh : Int32) (Mn : Int32) (Mm : Int32) (Mt : (Nat → Int32)) (p1 : Int32) (p2 : Int32) (r0 : Int32) (Mh9 : Int32) (hf : fX9_commonPrefix N Mh Mn Mm Mt p1 p2 = some (r0, Mh9)) : Met l yX9_commonPrefix wsX9_commonPrefix rX9_commonPrefix (gP D cI cJ cD [.ref (q 14), .int p1, .int p2] (w_14_15 q cI cJ cD Mh Mn Mm Mt)) (gQ D (some (.int r0)) (w_14_15 q cI cJ cD Mh9 Mn Mm Mt) (gA q [14, 15])) 0 0 (gA q [14, 15]) := by
  refine Met.ofW (cc := cX9_commonPrefix) (maxL := 3) (ret := (some .int)) (by decide +kernel) rfl ?_
  intro p e s m args below meth c s₁ B hml hv
  obtain ⟨rfl, hP, hE⟩ := hv
  have hx := B.exec
  have hb := B.bytes
  have hr := B.returns
  have hts := atoms_spec (ws := wsX9_commonPrefix) B.pre
  have hown : s.vm.findClass RX9 = some m.cls := findClass_of_methodNamed B.named
  have hlocks := B.notSynchronized
  have hS : va_S (gA q [14, 15]) s.heap s.heap [] := va_S.rf
  have hl := lv_entry ([.ref (q 14), .int p1, .int p2]) (n := 3) (Nat.le_of_ble_eq_true rfl)
  rw [lg_entry_eq]
  generalize (lg_sl ([.ref (q 14), .int p1, .int p2]) ++ List.replicate (3 - (lg_sl ([.ref (q 14), .int p1, .int p2])).length) Slot.unset).toArray = ls at hl ⊢
  have hl : lv_has ls 3 [(0, .ref (q 14)), (1, .int p1), (2, .int p2)] := hl
  have hk39 := hts (.fieldLink RX9 39 "LyndonTextModel" "length" "I") (by decide +kernel)
  have huX9 : ∀ w ∈ u_ws RX9 TX9 11, w ∈ wsX9_commonPrefix := by decide +kernel
  have J54 : ∀ (Mh : Int32) (y0 : Int32), fX9_commonPrefix_J54 N Mn Mm Mt Mh y0 = some (r0, Mh9) → ∀ (H : Heap) (locs : List Loc), va_P D vwCl (w_14_15 q cI cJ cD Mh Mn Mm Mt) H → va_S (gA q [14, 15]) s.heap H locs → ∀ ls : Array Slot, lv_has ls 3 [] → W p l e (headSpec wsX9_commonPrefix rX9_commonPrefix).room s m ([.ref (q 14), .int p1, .int p2] : List Value).toArray below meth c H locs 0 0 (MQ below (gQ D (some (.int r0)) (w_14_15 q cI cJ cD Mh9 Mn Mm Mt) (gA q [14, 15])) ([.ref (q 14), .int p1, .int p2] : List Value).toArray s 0 0 (gA q [14, 15])) (F0 m 54 ls [.int y0]) := by
    intro Mh y0 hf H locs hP hS ls hl
    unfold fX9_commonPrefix_J54 at hf
    cases hf
    exact W.iret hx hb hr (fun t ht hW => ⟨⟨rfl, by rw [ht]; exact hP⟩, hS.F ht⟩) hS.2.2 dX9_commonPrefix_54
  have J30 : ∀ (Mh : Int32) (x1 : Int32) (x2 : Int32) (y1 : Int32), fX9_commonPrefix_J30 N Mn Mm Mt Mh x1 x2 y1 = some (r0, Mh9) → ∀ (H : Heap) (locs : List Loc), va_P D vwCl (w_14_15 q cI cJ cD Mh Mn Mm Mt) H → va_S (gA q [14, 15]) s.heap H locs → ∀ ls : Array Slot, lv_has ls 3 [(0, .ref (q 14)), (1, .int x1), (2, .int x2)] → W p l e (headSpec wsX9_commonPrefix rX9_commonPrefix).room s m ([.ref (q 14), .int p1, .int p2] : List Value).toArray below meth c H locs 0 0 (MQ below (gQ D (some (.int r0)) (w_14_15 q cI cJ cD Mh9 Mn Mm Mt) (gA q [14, 15])) ([.ref (q 14), .int p1, .int p2] : List Value).toArray s 0 0 (gA q [14, 15])) (F0 m 30 ls [.int y1, .ref (q 14)]) := by
    intro Mh x1 x2 y1 hf H locs hP hS ls hl
    unfold fX9_commonPrefix_J30 at hf
    obtain ⟨⟨r30, Mh30⟩, hc, hf⟩ := bn_some hf
    try dsimp only at hf
    refine g_call0 (ws' := (w_14_15 q cI cJ cD Mh30 Mn Mm Mt)) (st1 := [.int r30]) hq [14, 15] [14] [.inl 0, .inr 1] (va_runV (As := [.int y1]) (rest := []) ⟨hx, hb, hml, hown, hts⟩ (kX9_goesWell l D cI cJ cD q hq N Mh Mn Mm y1 r30 Mh30 hc) (cwV 1 hts gX9_commonPrefix_X9_goesWell rfl rfl rfl (by decide +kernel) ⟨(Nat.le_of_ble_eq_true rfl), (Nat.le_of_ble_eq_true rfl)⟩) ⟨gP_blind, va_recv hE.1 hP (ci := 7) (q0 := 0) rfl rfl, fun U hU hW => ⟨rfl, by rw [hU]; exact hP.sub (ws' := (w_14 q cI cJ cD Mh Mn Mm)) [0] rfl, gEv.warm hW hE⟩⟩ rfl rfl hl.1 rfl (lv_room (Nat.le_of_ble_eq_true rfl)) dX9_commonPrefix_30 ⟨Nat.zero_le _, Nat.zero_le _⟩) hP hS (gSub rfl) rfl rfl rfl rfl rfl (fun H locs hP hS => ?_)
    refine lv_if_eq (tgt := 53) hx hb dX9_commonPrefix_33 (by decide) (fun c_1 => ?_) (fun c_1 => ?_)
    · have hf := (if_pos c_1).symm.trans hf
      refine lv_iconst (v := (0 : Int32)) hx hb dX9_commonPrefix_53 (by decide) ?_
      exact J54 Mh30 (0 : Int32) hf _ _ hP hS _ (lv_sub hl [] rfl)
    · have hf := (if_neg c_1).symm.trans hf
      refine lv_aload_n hx hb dX9_commonPrefix_36 rfl (lv_at hl 0 rfl) ?_
      refine lv_iload_n hx hb dX9_commonPrefix_37 rfl (lv_at hl 1 rfl) ?_
      refine lv_aload_n hx hb dX9_commonPrefix_38 rfl (lv_at hl 0 rfl) ?_
      refine va_get (D := D) (ci := 7) (v := .int Mn) (C := RX9) (T := TX9) (N := 11) hx hb hts huX9 hown hE.1 hP 0 rfl rfl 1 (by decide) hk39 (fun _ h9 => h9) rfl dX9_commonPrefix_39 ?_
      refine lv_iload_n hx hb dX9_commonPrefix_42 rfl (lv_at hl 2 rfl) ?_
      refine lv_aload_n hx hb dX9_commonPrefix_43 rfl (lv_at hl 0 rfl) ?_
      refine va_get (D := D) (ci := 7) (v := .int Mn) (C := RX9) (T := TX9) (N := 11) hx hb hts huX9 hown hE.1 hP 0 rfl rfl 1 (by decide) hk39 (fun _ h9 => h9) rfl dX9_commonPrefix_44 ?_
      obtain ⟨r47, hc, hf⟩ := bn_some hf
      try dsimp only at hf
      refine g_call0 (ws' := (w_14_15 q cI cJ cD Mh30 Mn Mm Mt)) (st1 := [.int r47]) hq [14, 15] [14, 15] [.inl 0, .inl 1] (va_runV (As := [.int x1, .int Mn, .int x2, .int Mn]) (rest := []) ⟨hx, hb, hml, hown, hts⟩ (kX9_same l D cI cJ cD q hq N Mh30 Mn Mm Mt x1 Mn x2 Mn r47 hc) (cwV 4 hts gX9_commonPrefix_X9_same rfl rfl rfl (by decide +kernel) ⟨(Nat.le_of_ble_eq_true rfl), (Nat.le_of_ble_eq_true rfl)⟩) ⟨gP_blind, va_recv hE.1 hP (ci := 7) (q0 := 0) rfl rfl, fun U hU hW => ⟨rfl, by rw [hU]; exact hP.sub (ws' := (w_14_15 q cI cJ cD Mh30 Mn Mm Mt)) [0, 1] rfl, gEv.warm hW hE⟩⟩ rfl rfl hl.1 rfl (lv_room (Nat.le_of_ble_eq_true rfl)) dX9_commonPrefix_47 ⟨Nat.zero_le _, Nat.zero_le _⟩) hP hS (gSub rfl) rfl rfl rfl rfl rfl (fun H locs hP hS => ?_)
      refine lv_goto (tgt := 54) hx hb dX9_commonPrefix_50 (by decide) ?_
      exact J54 Mh30 r47 hf _ _ hP hS _ (lv_sub hl [] rfl)
  have J29 : ∀ (Mh : Int32) (x1 : Int32) (x2 : Int32), fX9_commonPrefix_J29 N Mn Mm Mt Mh x1 x2 = some (r0, Mh9) → ∀ (H : Heap) (locs : List Loc), va_P D vwCl (w_14_15 q cI cJ cD Mh Mn Mm Mt) H → va_S (gA q [14, 15]) s.heap H locs → ∀ ls : Array Slot, lv_has ls 3 [(0, .ref (q 14)), (1, .int x1), (2, .int x2)] → W p l e (headSpec wsX9_commonPrefix rX9_commonPrefix).room s m ([.ref (q 14), .int p1, .int p2] : List Value).toArray below meth c H locs 0 0 (MQ below (gQ D (some (.int r0)) (w_14_15 q cI cJ cD Mh9 Mn Mm Mt) (gA q [14, 15])) ([.ref (q 14), .int p1, .int p2] : List Value).toArray s 0 0 (gA q [14, 15])) (F0 m 29 ls [.ref (q 14)]) := by
    intro Mh x1 x2 hf H locs hP hS ls hl
    unfold fX9_commonPrefix_J29 at hf
    refine lv_iconst (v := (1 : Int32)) hx hb dX9_commonPrefix_29 (by decide) ?_
    exact J30 Mh x1 x2 (1 : Int32) hf _ _ hP hS _ (lv_sub hl [0, 1, 2] rfl)
  unfold fX9_commonPrefix at hf
  refine lv_aload_n hx hb dX9_commonPrefix_0 rfl (lv_at hl 0 rfl) ?_
  refine lv_iload_n hx hb dX9_commonPrefix_1 rfl (lv_at hl 1 rfl) ?_
  refine lv_iconst (v := (0 : Int32)) hx hb dX9_commonPrefix_2 (by decide) ?_
  refine lv_aload_n hx hb dX9_commonPrefix_3 rfl (lv_at hl 0 rfl) ?_
  refine va_get (D := D) (ci := 7) (v := .int Mn) (C := RX9) (T := TX9) (N := 11) hx hb hts huX9 hown hE.1 hP 0 rfl rfl 1 (by decide) hk39 (fun _ h9 => h9) rfl dX9_commonPrefix_4 ?_
  obtain ⟨r7, hc, hf⟩ := bn_some hf
  try dsimp only at hf
  refine g_call0 (ws' := (w_14_15 q cI cJ cD Mh Mn Mm Mt)) (st1 := [.int r7, .ref (q 14)]) hq [14, 15] [] [.inr 0, .inr 1] (va_runS (As := [.int p1, .int (0 : Int32), .int Mn]) (rest := [.ref (q 14)]) ⟨hx, hb, hml, hown, hts⟩ (kX9_in l D cI cJ cD q hq N p1 (0 : Int32) Mn r7 hc) (va_cwS 3 hts gX9_commonPrefix_X9_in rfl rfl rfl (by decide +kernel) ⟨(Nat.le_of_ble_eq_true rfl), (Nat.le_of_ble_eq_true rfl)⟩) ⟨gP_blind, fun U hU hW => ⟨rfl, by rw [hU]; exact hP.sub (ws' := (w_0none q cI cJ cD)) [] rfl, gEv.warm hW hE⟩⟩ rfl rfl hl.1 rfl (lv_room (Nat.le_of_ble_eq_true rfl)) dX9_commonPrefix_7 ⟨Nat.zero_le _, Nat.zero_le _⟩) hP hS (gSub rfl) rfl rfl rfl rfl rfl (fun H locs hP hS => ?_)
  refine lv_if_eq (tgt := 29) hx hb dX9_commonPrefix_10 (by decide) (fun c_2 => ?_) (fun c_2 => ?_)
  · have hf := (if_pos c_2).symm.trans hf
    exact J29 Mh p1 p2 hf _ _ hP hS _ (lv_sub hl [0, 1, 2] rfl)
  · have hf := (if_neg c_2).symm.trans hf
    refine lv_iload_n hx hb dX9_commonPrefix_13 rfl (lv_at hl 2 rfl) ?_
    refine lv_iconst (v := (0 : Int32)) hx hb dX9_commonPrefix_14 (by decide) ?_
    refine lv_aload_n hx hb dX9_commonPrefix_15 rfl (lv_at hl 0 rfl) ?_
    refine va_get (D := D) (ci := 7) (v := .int Mn) (C := RX9) (T := TX9) (N := 11) hx hb hts huX9 hown hE.1 hP 0 rfl rfl 1 (by decide) hk39 (fun _ h9 => h9) rfl dX9_commonPrefix_16 ?_
    obtain ⟨r19, hc, hf⟩ := bn_some hf
    try dsimp only at hf
    refine g_call0 (ws' := (w_14_15 q cI cJ cD Mh Mn Mm Mt)) (st1 := [.int r19, .ref (q 14)]) hq [14, 15] [] [.inr 0, .inr 1] (va_runS (As := [.int p2, .int (0 : Int32), .int Mn]) (rest := [.ref (q 14)]) ⟨hx, hb, hml, hown, hts⟩ (kX9_in l D cI cJ cD q hq N p2 (0 : Int32) Mn r19 hc) (va_cwS 3 hts gX9_commonPrefix_X9_in rfl rfl rfl (by decide +kernel) ⟨(Nat.le_of_ble_eq_true rfl), (Nat.le_of_ble_eq_true rfl)⟩) ⟨gP_blind, fun U hU hW => ⟨rfl, by rw [hU]; exact hP.sub (ws' := (w_0none q cI cJ cD)) [] rfl, gEv.warm hW hE⟩⟩ rfl rfl hl.1 rfl (lv_room (Nat.le_of_ble_eq_true rfl)) dX9_commonPrefix_19 ⟨Nat.zero_le _, Nat.zero_le _⟩) hP hS (gSub rfl) rfl rfl rfl rfl rfl (fun H locs hP hS => ?_)
    refine lv_if_eq (tgt := 29) hx hb dX9_commonPrefix_22 (by decide) (fun c_3 => ?_) (fun c_3 => ?_)
    · have hf := (if_pos c_3).symm.trans hf
      exact J29 Mh p1 p2 hf _ _ hP hS _ (lv_sub hl [0, 1, 2] rfl)
    · have hf := (if_neg c_3).symm.trans hf
      refine lv_iconst (v := (0 : Int32)) hx hb dX9_commonPrefix_25 (by decide) ?_
      refine lv_goto (tgt := 30) hx hb dX9_commonPrefix_26 (by decide) ?_
      exact J30 Mh p1 p2 (0 : Int32) hf _ _ hP hS _ (lv_sub hl [0, 1, 2] rfl)
set_option maxHeartbeats 4000000 in
set_option maxRecDepth 100000 in
theorem kX9_lyndonPart (l : Launch) (D : va_G) (cI cJ cD : ClassId) (q : Nat → Nat) (hq : gInj q) (N : Nat) (Mh : Int32) (Mn : Int32) (Mm : Int32) (Mt : (Nat → Int32)) (p1 : Int32) (p2 : Int32) (p3 : Int32) (r0 : Int32) (hf : fX9_lyndonPart N Mh Mn Mm Mt p1 p2 p3 = some r0) : Met l yX9_lyndonPart wsX9_lyndonPart rX9_lyndonPart (gP D cI cJ cD [.ref (q 14), .int p1, .int p2, .int p3] (w_14_15 q cI cJ cD Mh Mn Mm Mt)) (gQ D (some (.int r0)) (w_14_15 q cI cJ cD Mh Mn Mm Mt) (gA q [14, 15])) 0 0 (gA q [14, 15]) := by
  refine Met.ofW (cc := cX9_lyndonPart) (maxL := 6) (ret := (some .boolean)) (by decide +kernel) rfl ?_
  intro p e s m args below meth c s₁ B hml hv
  obtain ⟨rfl, hP, hE⟩ := hv
  have hx := B.exec
  have hb := B.bytes
  have hr := B.returns
  have hts := atoms_spec (ws := wsX9_lyndonPart) B.pre
  have hown : s.vm.findClass RX9 = some m.cls := findClass_of_methodNamed B.named
  have hlocks := B.notSynchronized
  have hS : va_S (gA q [14, 15]) s.heap s.heap [] := va_S.rf
  have hl := lv_entry ([.ref (q 14), .int p1, .int p2, .int p3]) (n := 6) (Nat.le_of_ble_eq_true rfl)
  rw [lg_entry_eq]
  generalize (lg_sl ([.ref (q 14), .int p1, .int p2, .int p3]) ++ List.replicate (6 - (lg_sl ([.ref (q 14), .int p1, .int p2, .int p3])).length) Slot.unset).toArray = ls at hl ⊢
  have hl : lv_has ls 6 [(0, .ref (q 14)), (1, .int p1), (2, .int p2), (3, .int p3)] := hl
  have J45 : ∀ (x4 : Int32), fX9_lyndonPart_J45 N Mh Mn Mm Mt x4 = some r0 → ∀ (H : Heap) (locs : List Loc), va_P D vwCl (w_14_15 q cI cJ cD Mh Mn Mm Mt) H → va_S (gA q [14, 15]) s.heap H locs → ∀ ls : Array Slot, lv_has ls 6 [(4, .int x4)] → W p l e (headSpec wsX9_lyndonPart rX9_lyndonPart).room s m ([.ref (q 14), .int p1, .int p2, .int p3] : List Value).toArray below meth c H locs 0 0 (MQ below (gQ D (some (.int r0)) (w_14_15 q cI cJ cD Mh Mn Mm Mt) (gA q [14, 15])) ([.ref (q 14), .int p1, .int p2, .int p3] : List Value).toArray s 0 0 (gA q [14, 15])) (F0 m 45 ls []) := by
    intro x4 hf H locs hP hS ls hl
    unfold fX9_lyndonPart_J45 at hf
    refine lv_iload hx hb dX9_lyndonPart_45 (lv_at hl 0 rfl) ?_
    obtain ⟨g_1, hf⟩ := gd_some hf
    cases hf
    exact W.zret (ty := .boolean) hx hb hr (isB_nar g_1) (fun t ht hW => ⟨⟨rfl, by rw [ht]; exact hP⟩, hS.F ht⟩) hS.2.2 dX9_lyndonPart_47
  have K8 : ∀ (n8 : Nat) (x1 : Int32) (x2 : Int32) (x3 : Int32) (x4 : Int32) (x5 : Int32), fX9_lyndonPart_H8 N Mh Mn Mm Mt n8 x1 x2 x3 x4 x5 = some r0 → ∀ (H : Heap) (locs : List Loc), va_P D vwCl (w_14_15 q cI cJ cD Mh Mn Mm Mt) H → va_S (gA q [14, 15]) s.heap H locs → ∀ ls : Array Slot, lv_has ls 6 [(0, .ref (q 14)), (1, .int x1), (2, .int x2), (3, .int x3), (4, .int x4), (5, .int x5)] → W p l e (headSpec wsX9_lyndonPart rX9_lyndonPart).room s m ([.ref (q 14), .int p1, .int p2, .int p3] : List Value).toArray below meth c H locs 0 0 (MQ below (gQ D (some (.int r0)) (w_14_15 q cI cJ cD Mh Mn Mm Mt) (gA q [14, 15])) ([.ref (q 14), .int p1, .int p2, .int p3] : List Value).toArray s 0 0 (gA q [14, 15])) (F0 m 8 ls []) := by
    intro n8
    induction n8 with
    | zero =>
      intro x1 x2 x3 x4 x5 hf
      exact nomatch (show (none : Option Int32) = some r0 from hf)
    | succ n8 ih8 =>
      have J37 : ∀ (x1 : Int32) (x2 : Int32) (x3 : Int32) (x5 : Int32) (y0 : Int32), fX9_lyndonPart_J37 N Mh Mn Mm Mt (fX9_lyndonPart_H8 N Mh Mn Mm Mt n8) x1 x2 x3 x5 y0 = some r0 → ∀ (H : Heap) (locs : List Loc), va_P D vwCl (w_14_15 q cI cJ cD Mh Mn Mm Mt) H → va_S (gA q [14, 15]) s.heap H locs → ∀ ls : Array Slot, lv_has ls 6 [(0, .ref (q 14)), (1, .int x1), (2, .int x2), (3, .int x3), (5, .int x5)] → W p l e (headSpec wsX9_lyndonPart rX9_lyndonPart).room s m ([.ref (q 14), .int p1, .int p2, .int p3] : List Value).toArray below meth c H locs 0 0 (MQ below (gQ D (some (.int r0)) (w_14_15 q cI cJ cD Mh Mn Mm Mt) (gA q [14, 15])) ([.ref (q 14), .int p1, .int p2, .int p3] : List Value).toArray s 0 0 (gA q [14, 15])) (F0 m 37 ls [.int y0]) := by
        intro x1 x2 x3 x5 y0 hf H locs hP hS ls hl
        unfold fX9_lyndonPart_J37 at hf
        refine lv_istore (lv' := [(4, .int y0), (0, .ref (q 14)), (1, .int x1), (2, .int x2), (3, .int x3), (5, .int x5)]) hx hb dX9_lyndonPart_37 hl (by decide) rfl (fun ls hl => ?_)
        refine lv_iinc (v := (x5 + 1)) (lv' := [(5, .int (x5 + 1)), (4, .int y0), (0, .ref (q 14)), (1, .int x1), (2, .int x2), (3, .int x3)]) hx hb dX9_lyndonPart_39 hl (k := 5) rfl rfl (by decide) rfl (fun ls hl => ?_)
        refine lv_goto (tgt := 8) hx hb dX9_lyndonPart_42 (by decide) ?_
        exact ih8 x1 x2 x3 y0 (x5 + 1) hf _ _ hP hS _ (lv_sub hl [2, 3, 4, 5, 1, 0] rfl)
      have J36 : ∀ (x1 : Int32) (x2 : Int32) (x3 : Int32) (x5 : Int32), fX9_lyndonPart_J36 N Mh Mn Mm Mt (fX9_lyndonPart_H8 N Mh Mn Mm Mt n8) x1 x2 x3 x5 = some r0 → ∀ (H : Heap) (locs : List Loc), va_P D vwCl (w_14_15 q cI cJ cD Mh Mn Mm Mt) H → va_S (gA q [14, 15]) s.heap H locs → ∀ ls : Array Slot, lv_has ls 6 [(0, .ref (q 14)), (1, .int x1), (2, .int x2), (3, .int x3), (5, .int x5)] → W p l e (headSpec wsX9_lyndonPart rX9_lyndonPart).room s m ([.ref (q 14), .int p1, .int p2, .int p3] : List Value).toArray below meth c H locs 0 0 (MQ below (gQ D (some (.int r0)) (w_14_15 q cI cJ cD Mh Mn Mm Mt) (gA q [14, 15])) ([.ref (q 14), .int p1, .int p2, .int p3] : List Value).toArray s 0 0 (gA q [14, 15])) (F0 m 36 ls []) := by
        intro x1 x2 x3 x5 hf H locs hP hS ls hl
        unfold fX9_lyndonPart_J36 at hf
        refine lv_iconst (v := (0 : Int32)) hx hb dX9_lyndonPart_36 (by decide) ?_
        exact J37 x1 x2 x3 x5 (0 : Int32) hf _ _ hP hS _ (lv_sub hl [0, 1, 2, 3, 4] rfl)
      intro x1 x2 x3 x4 x5 hf H locs hP hS ls hl
      have hf : fX9_lyndonPart_B8 N Mh Mn Mm Mt (fX9_lyndonPart_H8 N Mh Mn Mm Mt n8) x1 x2 x3 x4 x5 = some r0 := hf
      unfold fX9_lyndonPart_B8 at hf
      refine lv_iload hx hb dX9_lyndonPart_8 (lv_at hl 5 rfl) ?_
      refine lv_iload_n hx hb dX9_lyndonPart_10 rfl (lv_at hl 2 rfl) ?_
      refine lv_icmp_ge (tgt := 45) hx hb dX9_lyndonPart_11 (by decide) (fun c_2 => ?_) (fun c_2 => ?_)
      · have hf := (if_pos c_2).symm.trans hf
        exact J45 x4 hf _ _ hP hS _ (lv_sub hl [4] rfl)
      · have hf := (if_neg c_2).symm.trans hf
        refine lv_iload hx hb dX9_lyndonPart_14 (lv_at hl 4 rfl) ?_
        refine lv_if_eq (tgt := 36) hx hb dX9_lyndonPart_16 (by decide) (fun c_3 => ?_) (fun c_3 => ?_)
        · have hf := (if_pos c_3).symm.trans hf
          exact J36 x1 x2 x3 x5 hf _ _ hP hS _ (lv_sub hl [0, 1, 2, 3, 5] rfl)
        · have hf := (if_neg c_3).symm.trans hf
          refine lv_aload_n hx hb dX9_lyndonPart_19 rfl (lv_at hl 0 rfl) ?_
          refine lv_iload_n hx hb dX9_lyndonPart_20 rfl (lv_at hl 1 rfl) ?_
          refine lv_iload_n hx hb dX9_lyndonPart_21 rfl (lv_at hl 2 rfl) ?_
          refine lv_iload hx hb dX9_lyndonPart_22 (lv_at hl 5 rfl) ?_
          refine lv_iload_n hx hb dX9_lyndonPart_24 rfl (lv_at hl 2 rfl) ?_
          refine lv_iload_n hx hb dX9_lyndonPart_25 rfl (lv_at hl 3 rfl) ?_
          obtain ⟨r26, hc, hf⟩ := bn_some hf
          try dsimp only at hf
          refine g_call0 (ws' := (w_14_15 q cI cJ cD Mh Mn Mm Mt)) (st1 := [.int r26]) hq [14, 15] [14, 15] [.inl 0, .inl 1] (va_runV (As := [.int x1, .int x2, .int x5, .int x2, .int x3]) (rest := []) ⟨hx, hb, hml, hown, hts⟩ (kX9_order l D cI cJ cD q hq N Mh Mn Mm Mt x1 x2 x5 x2 x3 r26 hc) (cwV 5 hts gX9_lyndonPart_X9_order rfl rfl rfl (by decide +kernel) ⟨(Nat.le_of_ble_eq_true rfl), (Nat.le_of_ble_eq_true rfl)⟩) ⟨gP_blind, va_recv hE.1 hP (ci := 7) (q0 := 0) rfl rfl, fun U hU hW => ⟨rfl, by rw [hU]; exact hP.sub (ws' := (w_14_15 q cI cJ cD Mh Mn Mm Mt)) [0, 1] rfl, gEv.warm hW hE⟩⟩ rfl rfl hl.1 rfl (lv_room (Nat.le_of_ble_eq_true rfl)) dX9_lyndonPart_26 ⟨Nat.zero_le _, Nat.zero_le _⟩) hP hS (gSub rfl) rfl rfl rfl rfl rfl (fun H locs hP hS => ?_)
          refine lv_if_ge (tgt := 36) hx hb dX9_lyndonPart_29 (by decide) (fun c_4 => ?_) (fun c_4 => ?_)
          · have hf := (if_pos c_4).symm.trans hf
            exact J36 x1 x2 x3 x5 hf _ _ hP hS _ (lv_sub hl [0, 1, 2, 3, 5] rfl)
          · have hf := (if_neg c_4).symm.trans hf
            refine lv_iconst (v := (1 : Int32)) hx hb dX9_lyndonPart_32 (by decide) ?_
            refine lv_goto (tgt := 37) hx hb dX9_lyndonPart_33 (by decide) ?_
            exact J37 x1 x2 x3 x5 (1 : Int32) hf _ _ hP hS _ (lv_sub hl [0, 1, 2, 3, 5] rfl)
  unfold fX9_lyndonPart at hf
  refine lv_iconst (v := (1 : Int32)) hx hb dX9_lyndonPart_0 (by decide) ?_
  refine lv_istore (lv' := [(4, .int (1 : Int32)), (0, .ref (q 14)), (1, .int p1), (2, .int p2), (3, .int p3)]) hx hb dX9_lyndonPart_1 hl (by decide) rfl (fun ls hl => ?_)
  refine lv_iload_n hx hb dX9_lyndonPart_3 rfl (lv_at hl 2 rfl) ?_
  refine lv_iconst (v := (1 : Int32)) hx hb dX9_lyndonPart_4 (by decide) ?_
  refine lv_iadd hx hb dX9_lyndonPart_5 ?_
  refine lv_istore (lv' := [(5, .int (p1 + (1 : Int32))), (4, .int (1 : Int32)), (0, .ref (q 14)), (1, .int p1), (2, .int p2), (3, .int p3)]) hx hb dX9_lyndonPart_6 hl (by decide) rfl (fun ls hl => ?_)
  exact K8 N p1 p2 p3 (1 : Int32) (p1 + (1 : Int32)) hf _ _ hP hS _ (lv_sub hl [2, 3, 4, 5, 1, 0] rfl)
set_option maxHeartbeats 4000000 in
set_option maxRecDepth 100000 in
theorem kX9_isLyndon (l : Launch) (D : va_G) (cI cJ cD : ClassId) (q : Nat → Nat) (hq : gInj q) (N : Nat) (Mh : Int32) (Mn : Int32) (Mm : Int32) (Mt : (Nat → Int32)) (p1 : Int32) (p2 : Int32) (r0 : Int32) (Mh9 : Int32) (hf : fX9_isLyndon N Mh Mn Mm Mt p1 p2 = some (r0, Mh9)) : Met l yX9_isLyndon wsX9_isLyndon rX9_isLyndon (gP D cI cJ cD [.ref (q 14), .int p1, .int p2] (w_14_15 q cI cJ cD Mh Mn Mm Mt)) (gQ D (some (.int r0)) (w_14_15 q cI cJ cD Mh9 Mn Mm Mt) (gA q [14, 15])) 0 0 (gA q [14, 15]) := by
  refine Met.ofW (cc := cX9_isLyndon) (maxL := 3) (ret := (some .boolean)) (by decide +kernel) rfl ?_
  intro p e s m args below meth c s₁ B hml hv
  obtain ⟨rfl, hP, hE⟩ := hv
  have hx := B.exec
  have hb := B.bytes
  have hr := B.returns
  have hts := atoms_spec (ws := wsX9_isLyndon) B.pre
  have hown : s.vm.findClass RX9 = some m.cls := findClass_of_methodNamed B.named
  have hlocks := B.notSynchronized
  have hS : va_S (gA q [14, 15]) s.heap s.heap [] := va_S.rf
  have hl := lv_entry ([.ref (q 14), .int p1, .int p2]) (n := 3) (Nat.le_of_ble_eq_true rfl)
  rw [lg_entry_eq]
  generalize (lg_sl ([.ref (q 14), .int p1, .int p2]) ++ List.replicate (3 - (lg_sl ([.ref (q 14), .int p1, .int p2])).length) Slot.unset).toArray = ls at hl ⊢
  have hl : lv_has ls 3 [(0, .ref (q 14)), (1, .int p1), (2, .int p2)] := hl
  have J36 : ∀ (Mh : Int32) (y0 : Int32), fX9_isLyndon_J36 N Mn Mm Mt Mh y0 = some (r0, Mh9) → ∀ (H : Heap) (locs : List Loc), va_P D vwCl (w_14_15 q cI cJ cD Mh Mn Mm Mt) H → va_S (gA q [14, 15]) s.heap H locs → ∀ ls : Array Slot, lv_has ls 3 [] → W p l e (headSpec wsX9_isLyndon rX9_isLyndon).room s m ([.ref (q 14), .int p1, .int p2] : List Value).toArray below meth c H locs 0 0 (MQ below (gQ D (some (.int r0)) (w_14_15 q cI cJ cD Mh9 Mn Mm Mt) (gA q [14, 15])) ([.ref (q 14), .int p1, .int p2] : List Value).toArray s 0 0 (gA q [14, 15])) (F0 m 36 ls [.int y0]) := by
    intro Mh y0 hf H locs hP hS ls hl
    unfold fX9_isLyndon_J36 at hf
    obtain ⟨g_1, hf⟩ := gd_some hf
    cases hf
    exact W.zret (ty := .boolean) hx hb hr (isB_nar g_1) (fun t ht hW => ⟨⟨rfl, by rw [ht]; exact hP⟩, hS.F ht⟩) hS.2.2 dX9_isLyndon_36
  have J35 : ∀ (Mh : Int32), fX9_isLyndon_J35 N Mn Mm Mt Mh = some (r0, Mh9) → ∀ (H : Heap) (locs : List Loc), va_P D vwCl (w_14_15 q cI cJ cD Mh Mn Mm Mt) H → va_S (gA q [14, 15]) s.heap H locs → ∀ ls : Array Slot, lv_has ls 3 [] → W p l e (headSpec wsX9_isLyndon rX9_isLyndon).room s m ([.ref (q 14), .int p1, .int p2] : List Value).toArray below meth c H locs 0 0 (MQ below (gQ D (some (.int r0)) (w_14_15 q cI cJ cD Mh9 Mn Mm Mt) (gA q [14, 15])) ([.ref (q 14), .int p1, .int p2] : List Value).toArray s 0 0 (gA q [14, 15])) (F0 m 35 ls []) := by
    intro Mh hf H locs hP hS ls hl
    unfold fX9_isLyndon_J35 at hf
    refine lv_iconst (v := (0 : Int32)) hx hb dX9_isLyndon_35 (by decide) ?_
    exact J36 Mh (0 : Int32) hf _ _ hP hS _ (lv_sub hl [] rfl)
  have J15 : ∀ (Mh : Int32) (x1 : Int32) (x2 : Int32) (y1 : Int32), fX9_isLyndon_J15 N Mn Mm Mt Mh x1 x2 y1 = some (r0, Mh9) → ∀ (H : Heap) (locs : List Loc), va_P D vwCl (w_14_15 q cI cJ cD Mh Mn Mm Mt) H → va_S (gA q [14, 15]) s.heap H locs → ∀ ls : Array Slot, lv_has ls 3 [(0, .ref (q 14)), (1, .int x1), (2, .int x2)] → W p l e (headSpec wsX9_isLyndon rX9_isLyndon).room s m ([.ref (q 14), .int p1, .int p2] : List Value).toArray below meth c H locs 0 0 (MQ below (gQ D (some (.int r0)) (w_14_15 q cI cJ cD Mh9 Mn Mm Mt) (gA q [14, 15])) ([.ref (q 14), .int p1, .int p2] : List Value).toArray s 0 0 (gA q [14, 15])) (F0 m 15 ls [.int y1, .ref (q 14)]) := by
    intro Mh x1 x2 y1 hf H locs hP hS ls hl
    unfold fX9_isLyndon_J15 at hf
    obtain ⟨⟨r15, Mh15⟩, hc, hf⟩ := bn_some hf
    try dsimp only at hf
    refine g_call0 (ws' := (w_14_15 q cI cJ cD Mh15 Mn Mm Mt)) (st1 := [.int r15]) hq [14, 15] [14] [.inl 0, .inr 1] (va_runV (As := [.int y1]) (rest := []) ⟨hx, hb, hml, hown, hts⟩ (kX9_goesWell l D cI cJ cD q hq N Mh Mn Mm y1 r15 Mh15 hc) (cwV 1 hts gX9_isLyndon_X9_goesWell rfl rfl rfl (by decide +kernel) ⟨(Nat.le_of_ble_eq_true rfl), (Nat.le_of_ble_eq_true rfl)⟩) ⟨gP_blind, va_recv hE.1 hP (ci := 7) (q0 := 0) rfl rfl, fun U hU hW => ⟨rfl, by rw [hU]; exact hP.sub (ws' := (w_14 q cI cJ cD Mh Mn Mm)) [0] rfl, gEv.warm hW hE⟩⟩ rfl rfl hl.1 rfl (lv_room (Nat.le_of_ble_eq_true rfl)) dX9_isLyndon_15 ⟨Nat.zero_le _, Nat.zero_le _⟩) hP hS (gSub rfl) rfl rfl rfl rfl rfl (fun H locs hP hS => ?_)
    refine lv_if_eq (tgt := 35) hx hb dX9_isLyndon_18 (by decide) (fun c_2 => ?_) (fun c_2 => ?_)
    · have hf := (if_pos c_2).symm.trans hf
      exact J35 Mh15 hf _ _ hP hS _ (lv_sub hl [] rfl)
    · have hf := (if_neg c_2).symm.trans hf
      refine lv_aload_n hx hb dX9_isLyndon_21 rfl (lv_at hl 0 rfl) ?_
      refine lv_iload_n hx hb dX9_isLyndon_22 rfl (lv_at hl 1 rfl) ?_
      refine lv_iload_n hx hb dX9_isLyndon_23 rfl (lv_at hl 2 rfl) ?_
      refine lv_iconst (v := (0 : Int32)) hx hb dX9_isLyndon_24 (by decide) ?_
      obtain ⟨r25, hc, hf⟩ := bn_some hf
      try dsimp only at hf
      refine g_call0 (ws' := (w_14_15 q cI cJ cD Mh15 Mn Mm Mt)) (st1 := [.int r25]) hq [14, 15] [14, 15] [.inl 0, .inl 1] (va_runV (As := [.int x1, .int x2, .int (0 : Int32)]) (rest := []) ⟨hx, hb, hml, hown, hts⟩ (kX9_lyndonPart l D cI cJ cD q hq N Mh15 Mn Mm Mt x1 x2 (0 : Int32) r25 hc) (cwV 3 hts gX9_isLyndon_X9_lyndonPart rfl rfl rfl (by decide +kernel) ⟨(Nat.le_of_ble_eq_true rfl), (Nat.le_of_ble_eq_true rfl)⟩) ⟨gP_blind, va_recv hE.1 hP (ci := 7) (q0 := 0) rfl rfl, fun U hU hW => ⟨rfl, by rw [hU]; exact hP.sub (ws' := (w_14_15 q cI cJ cD Mh15 Mn Mm Mt)) [0, 1] rfl, gEv.warm hW hE⟩⟩ rfl rfl hl.1 rfl (lv_room (Nat.le_of_ble_eq_true rfl)) dX9_isLyndon_25 ⟨Nat.zero_le _, Nat.zero_le _⟩) hP hS (gSub rfl) rfl rfl rfl rfl rfl (fun H locs hP hS => ?_)
      refine lv_if_eq (tgt := 35) hx hb dX9_isLyndon_28 (by decide) (fun c_3 => ?_) (fun c_3 => ?_)
      · have hf := (if_pos c_3).symm.trans hf
        exact J35 Mh15 hf _ _ hP hS _ (lv_sub hl [] rfl)
      · have hf := (if_neg c_3).symm.trans hf
        refine lv_iconst (v := (1 : Int32)) hx hb dX9_isLyndon_31 (by decide) ?_
        refine lv_goto (tgt := 36) hx hb dX9_isLyndon_32 (by decide) ?_
        exact J36 Mh15 (1 : Int32) hf _ _ hP hS _ (lv_sub hl [] rfl)
  unfold fX9_isLyndon at hf
  refine lv_aload_n hx hb dX9_isLyndon_0 rfl (lv_at hl 0 rfl) ?_
  refine lv_aload_n hx hb dX9_isLyndon_1 rfl (lv_at hl 0 rfl) ?_
  refine lv_iload_n hx hb dX9_isLyndon_2 rfl (lv_at hl 1 rfl) ?_
  refine lv_iload_n hx hb dX9_isLyndon_3 rfl (lv_at hl 2 rfl) ?_
  obtain ⟨r4, hc, hf⟩ := bn_some hf
  try dsimp only at hf
  refine g_call0 (ws' := (w_14_15 q cI cJ cD Mh Mn Mm Mt)) (st1 := [.int r4, .ref (q 14)]) hq [14, 15] [14] [.inl 0, .inr 1] (va_runV (As := [.int p1, .int p2]) (rest := [.ref (q 14)]) ⟨hx, hb, hml, hown, hts⟩ (kX9_isPart l D cI cJ cD q hq N Mh Mn Mm p1 p2 r4 hc) (cwV 2 hts gX9_isLyndon_X9_isPart rfl rfl rfl (by decide +kernel) ⟨(Nat.le_of_ble_eq_true rfl), (Nat.le_of_ble_eq_true rfl)⟩) ⟨gP_blind, va_recv hE.1 hP (ci := 7) (q0 := 0) rfl rfl, fun U hU hW => ⟨rfl, by rw [hU]; exact hP.sub (ws' := (w_14 q cI cJ cD Mh Mn Mm)) [0] rfl, gEv.warm hW hE⟩⟩ rfl rfl hl.1 rfl (lv_room (Nat.le_of_ble_eq_true rfl)) dX9_isLyndon_4 ⟨Nat.zero_le _, Nat.zero_le _⟩) hP hS (gSub rfl) rfl rfl rfl rfl rfl (fun H locs hP hS => ?_)
  refine lv_if_eq (tgt := 14) hx hb dX9_isLyndon_7 (by decide) (fun c_4 => ?_) (fun c_4 => ?_)
  · have hf := (if_pos c_4).symm.trans hf
    refine lv_iconst (v := (1 : Int32)) hx hb dX9_isLyndon_14 (by decide) ?_
    exact J15 Mh p1 p2 (1 : Int32) hf _ _ hP hS _ (lv_sub hl [0, 1, 2] rfl)
  · have hf := (if_neg c_4).symm.trans hf
    refine lv_iconst (v := (0 : Int32)) hx hb dX9_isLyndon_10 (by decide) ?_
    refine lv_goto (tgt := 15) hx hb dX9_isLyndon_11 (by decide) ?_
    exact J15 Mh p1 p2 (0 : Int32) hf _ _ hP hS _ (lv_sub hl [0, 1, 2] rfl)
set_option maxHeartbeats 4000000 in
set_option maxRecDepth 100000 in
theorem kX9_longest (l : Launch) (D : va_G) (cI cJ cD : ClassId) (q : Nat → Nat) (hq : gInj q) (N : Nat) (Mh : Int32) (Mn : Int32) (Mm : Int32) (Mt : (Nat → Int32)) (p1 : Int32) (p2 : Int32) (r0 : Int32) (hf : fX9_longest N Mh Mn Mm Mt p1 p2 = some r0) : Met l yX9_longest wsX9_longest rX9_longest (gP D cI cJ cD [.ref (q 14), .int p1, .int p2] (w_14_15 q cI cJ cD Mh Mn Mm Mt)) (gQ D (some (.int r0)) (w_14_15 q cI cJ cD Mh Mn Mm Mt) (gA q [14, 15])) 0 0 (gA q [14, 15]) := by
  refine Met.ofW (cc := cX9_longest) (maxL := 4) (ret := (some .int)) (by decide +kernel) rfl ?_
  intro p e s m args below meth c s₁ B hml hv
  obtain ⟨rfl, hP, hE⟩ := hv
  have hx := B.exec
  have hb := B.bytes
  have hr := B.returns
  have hts := atoms_spec (ws := wsX9_longest) B.pre
  have hown : s.vm.findClass RX9 = some m.cls := findClass_of_methodNamed B.named
  have hlocks := B.notSynchronized
  have hS : va_S (gA q [14, 15]) s.heap s.heap [] := va_S.rf
  have hl := lv_entry ([.ref (q 14), .int p1, .int p2]) (n := 4) (Nat.le_of_ble_eq_true rfl)
  rw [lg_entry_eq]
  generalize (lg_sl ([.ref (q 14), .int p1, .int p2]) ++ List.replicate (4 - (lg_sl ([.ref (q 14), .int p1, .int p2])).length) Slot.unset).toArray = ls at hl ⊢
  have hl : lv_has ls 4 [(0, .ref (q 14)), (1, .int p1), (2, .int p2)] := hl
  have hk39 := hts (.fieldLink RX9 39 "LyndonTextModel" "length" "I") (by decide +kernel)
  have huX9 : ∀ w ∈ u_ws RX9 TX9 11, w ∈ wsX9_longest := by decide +kernel
  have J21 : ∀ (x1 : Int32) (x3 : Int32), fX9_longest_J21 N Mh Mn Mm Mt x1 x3 = some r0 → ∀ (H : Heap) (locs : List Loc), va_P D vwCl (w_14_15 q cI cJ cD Mh Mn Mm Mt) H → va_S (gA q [14, 15]) s.heap H locs → ∀ ls : Array Slot, lv_has ls 4 [(1, .int x1), (3, .int x3)] → W p l e (headSpec wsX9_longest rX9_longest).room s m ([.ref (q 14), .int p1, .int p2] : List Value).toArray below meth c H locs 0 0 (MQ below (gQ D (some (.int r0)) (w_14_15 q cI cJ cD Mh Mn Mm Mt) (gA q [14, 15])) ([.ref (q 14), .int p1, .int p2] : List Value).toArray s 0 0 (gA q [14, 15])) (F0 m 21 ls []) := by
    intro x1 x3 hf H locs hP hS ls hl
    unfold fX9_longest_J21 at hf
    refine lv_iload_n hx hb dX9_longest_21 rfl (lv_at hl 1 rfl) ?_
    refine lv_iload_n hx hb dX9_longest_22 rfl (lv_at hl 0 rfl) ?_
    refine lv_isub hx hb dX9_longest_23 ?_
    cases hf
    exact W.iret hx hb hr (fun t ht hW => ⟨⟨rfl, by rw [ht]; exact hP⟩, hS.F ht⟩) hS.2.2 dX9_longest_24
  have K5 : ∀ (n5 : Nat) (x1 : Int32) (x2 : Int32) (x3 : Int32), fX9_longest_H5 N Mh Mn Mm Mt n5 x1 x2 x3 = some r0 → ∀ (H : Heap) (locs : List Loc), va_P D vwCl (w_14_15 q cI cJ cD Mh Mn Mm Mt) H → va_S (gA q [14, 15]) s.heap H locs → ∀ ls : Array Slot, lv_has ls 4 [(0, .ref (q 14)), (1, .int x1), (2, .int x2), (3, .int x3)] → W p l e (headSpec wsX9_longest rX9_longest).room s m ([.ref (q 14), .int p1, .int p2] : List Value).toArray below meth c H locs 0 0 (MQ below (gQ D (some (.int r0)) (w_14_15 q cI cJ cD Mh Mn Mm Mt) (gA q [14, 15])) ([.ref (q 14), .int p1, .int p2] : List Value).toArray s 0 0 (gA q [14, 15])) (F0 m 5 ls []) := by
    intro n5
    induction n5 with
    | zero =>
      intro x1 x2 x3 hf
      exact nomatch (show (none : Option Int32) = some r0 from hf)
    | succ n5 ih5 =>
      intro x1 x2 x3 hf H locs hP hS ls hl
      have hf : fX9_longest_B5 N Mh Mn Mm Mt (fX9_longest_H5 N Mh Mn Mm Mt n5) x1 x2 x3 = some r0 := hf
      unfold fX9_longest_B5 at hf
      refine lv_aload_n hx hb dX9_longest_5 rfl (lv_at hl 0 rfl) ?_
      refine lv_iload_n hx hb dX9_longest_6 rfl (lv_at hl 1 rfl) ?_
      refine lv_iload_n hx hb dX9_longest_7 rfl (lv_at hl 3 rfl) ?_
      refine lv_iload_n hx hb dX9_longest_8 rfl (lv_at hl 2 rfl) ?_
      obtain ⟨r9, hc, hf⟩ := bn_some hf
      try dsimp only at hf
      refine g_call0 (ws' := (w_14_15 q cI cJ cD Mh Mn Mm Mt)) (st1 := [.int r9]) hq [14, 15] [14, 15] [.inl 0, .inl 1] (va_runV (As := [.int x1, .int x3, .int x2]) (rest := []) ⟨hx, hb, hml, hown, hts⟩ (kX9_lyndonPart l D cI cJ cD q hq N Mh Mn Mm Mt x1 x3 x2 r9 hc) (cwV 3 hts gX9_longest_X9_lyndonPart rfl rfl rfl (by decide +kernel) ⟨(Nat.le_of_ble_eq_true rfl), (Nat.le_of_ble_eq_true rfl)⟩) ⟨gP_blind, va_recv hE.1 hP (ci := 7) (q0 := 0) rfl rfl, fun U hU hW => ⟨rfl, by rw [hU]; exact hP.sub (ws' := (w_14_15 q cI cJ cD Mh Mn Mm Mt)) [0, 1] rfl, gEv.warm hW hE⟩⟩ rfl rfl hl.1 rfl (lv_room (Nat.le_of_ble_eq_true rfl)) dX9_longest_9 ⟨Nat.zero_le _, Nat.zero_le _⟩) hP hS (gSub rfl) rfl rfl rfl rfl rfl (fun H locs hP hS => ?_)
      refine lv_if_ne (tgt := 21) hx hb dX9_longest_12 (by decide) (fun c_1 => ?_) (fun c_1 => ?_)
      · have hf := (if_neg c_1).symm.trans hf
        exact J21 x1 x3 hf _ _ hP hS _ (lv_sub hl [1, 3] rfl)
      · have hf := (if_pos c_1).symm.trans hf
        refine lv_iinc (v := (x3 + (-1 : Int32))) (lv' := [(3, .int (x3 + (-1 : Int32))), (0, .ref (q 14)), (1, .int x1), (2, .int x2)]) hx hb dX9_longest_15 hl (k := 3) rfl rfl (by decide) rfl (fun ls hl => ?_)
        refine lv_goto (tgt := 5) hx hb dX9_longest_18 (by decide) ?_
        exact ih5 x1 x2 (x3 + (-1 : Int32)) hf _ _ hP hS _ (lv_sub hl [1, 2, 3, 0] rfl)
  unfold fX9_longest at hf
  refine lv_aload_n hx hb dX9_longest_0 rfl (lv_at hl 0 rfl) ?_
  refine va_get (D := D) (ci := 7) (v := .int Mn) (C := RX9) (T := TX9) (N := 11) hx hb hts huX9 hown hE.1 hP 0 rfl rfl 1 (by decide) hk39 (fun _ h9 => h9) rfl dX9_longest_1 ?_
  refine lv_istore_n (lv' := [(3, .int Mn), (0, .ref (q 14)), (1, .int p1), (2, .int p2)]) hx hb dX9_longest_4 rfl hl (by decide) rfl (fun ls hl => ?_)
  exact K5 N p1 p2 Mn hf _ _ hP hS _ (lv_sub hl [1, 2, 3, 0] rfl)
set_option maxHeartbeats 4000000 in
set_option maxRecDepth 100000 in
theorem kX9_startOf (l : Launch) (D : va_G) (cI cJ cD : ClassId) (q : Nat → Nat) (hq : gInj q) (N : Nat) (Mh : Int32) (Mn : Int32) (Mm : Int32) (Mt : (Nat → Int32)) (p1 : Int32) (r0 : Int32) (hf : fX9_startOf N Mh Mn Mm Mt p1 = some r0) : Met l yX9_startOf wsX9_startOf rX9_startOf (gP D cI cJ cD [.ref (q 14), .int p1] (w_14_15 q cI cJ cD Mh Mn Mm Mt)) (gQ D (some (.int r0)) (w_14_15 q cI cJ cD Mh Mn Mm Mt) (gA q [14, 15])) 0 0 (gA q [14, 15]) := by
  refine Met.ofW (cc := cX9_startOf) (maxL := 4) (ret := (some .int)) (by decide +kernel) rfl ?_
  intro p e s m args below meth c s₁ B hml hv
  obtain ⟨rfl, hP, hE⟩ := hv
  have hx := B.exec
  have hb := B.bytes
  have hr := B.returns
  have hts := atoms_spec (ws := wsX9_startOf) B.pre
  have hown : s.vm.findClass RX9 = some m.cls := findClass_of_methodNamed B.named
  have hlocks := B.notSynchronized
  have hS : va_S (gA q [14, 15]) s.heap s.heap [] := va_S.rf
  have hl := lv_entry ([.ref (q 14), .int p1]) (n := 4) (Nat.le_of_ble_eq_true rfl)
  rw [lg_entry_eq]
  generalize (lg_sl ([.ref (q 14), .int p1]) ++ List.replicate (4 - (lg_sl ([.ref (q 14), .int p1])).length) Slot.unset).toArray = ls at hl ⊢
  have hl : lv_has ls 4 [(0, .ref (q 14)), (1, .int p1)] := hl
  have hk39 := hts (.fieldLink RX9 39 "LyndonTextModel" "length" "I") (by decide +kernel)
  have huX9 : ∀ w ∈ u_ws RX9 TX9 11, w ∈ wsX9_startOf := by decide +kernel
  have J42 : ∀ (y0 : Int32), fX9_startOf_J42 N Mh Mn Mm Mt y0 = some r0 → ∀ (H : Heap) (locs : List Loc), va_P D vwCl (w_14_15 q cI cJ cD Mh Mn Mm Mt) H → va_S (gA q [14, 15]) s.heap H locs → ∀ ls : Array Slot, lv_has ls 4 [] → W p l e (headSpec wsX9_startOf rX9_startOf).room s m ([.ref (q 14), .int p1] : List Value).toArray below meth c H locs 0 0 (MQ below (gQ D (some (.int r0)) (w_14_15 q cI cJ cD Mh Mn Mm Mt) (gA q [14, 15])) ([.ref (q 14), .int p1] : List Value).toArray s 0 0 (gA q [14, 15])) (F0 m 42 ls [.int y0]) := by
    intro y0 hf H locs hP hS ls hl
    unfold fX9_startOf_J42 at hf
    cases hf
    exact W.iret hx hb hr (fun t ht hW => ⟨⟨rfl, by rw [ht]; exact hP⟩, hS.F ht⟩) hS.2.2 dX9_startOf_42
  have J32 : ∀ (x1 : Int32) (x2 : Int32) (x3 : Int32), fX9_startOf_J32 N Mh Mn Mm Mt x1 x2 x3 = some r0 → ∀ (H : Heap) (locs : List Loc), va_P D vwCl (w_14_15 q cI cJ cD Mh Mn Mm Mt) H → va_S (gA q [14, 15]) s.heap H locs → ∀ ls : Array Slot, lv_has ls 4 [(1, .int x1), (2, .int x2), (3, .int x3)] → W p l e (headSpec wsX9_startOf rX9_startOf).room s m ([.ref (q 14), .int p1] : List Value).toArray below meth c H locs 0 0 (MQ below (gQ D (some (.int r0)) (w_14_15 q cI cJ cD Mh Mn Mm Mt) (gA q [14, 15])) ([.ref (q 14), .int p1] : List Value).toArray s 0 0 (gA q [14, 15])) (F0 m 32 ls []) := by
    intro x1 x2 x3 hf H locs hP hS ls hl
    unfold fX9_startOf_J32 at hf
    refine lv_iload_n hx hb dX9_startOf_32 rfl (lv_at hl 2 rfl) ?_
    refine lv_iload_n hx hb dX9_startOf_33 rfl (lv_at hl 0 rfl) ?_
    refine lv_icmp_ne (tgt := 41) hx hb dX9_startOf_34 (by decide) (fun c_1 => ?_) (fun c_1 => ?_)
    · have hf := (if_neg c_1).symm.trans hf
      refine lv_iconst (v := (-1 : Int32)) hx hb dX9_startOf_41 (by decide) ?_
      exact J42 (-1 : Int32) hf _ _ hP hS _ (lv_sub hl [] rfl)
    · have hf := (if_pos c_1).symm.trans hf
      refine lv_iload_n hx hb dX9_startOf_37 rfl (lv_at hl 1 rfl) ?_
      refine lv_goto (tgt := 42) hx hb dX9_startOf_38 (by decide) ?_
      exact J42 x2 hf _ _ hP hS _ (lv_sub hl [] rfl)
  have K4 : ∀ (n4 : Nat) (x1 : Int32) (x2 : Int32) (x3 : Int32), fX9_startOf_H4 N Mh Mn Mm Mt n4 x1 x2 x3 = some r0 → ∀ (H : Heap) (locs : List Loc), va_P D vwCl (w_14_15 q cI cJ cD Mh Mn Mm Mt) H → va_S (gA q [14, 15]) s.heap H locs → ∀ ls : Array Slot, lv_has ls 4 [(0, .ref (q 14)), (1, .int x1), (2, .int x2), (3, .int x3)] → W p l e (headSpec wsX9_startOf rX9_startOf).room s m ([.ref (q 14), .int p1] : List Value).toArray below meth c H locs 0 0 (MQ below (gQ D (some (.int r0)) (w_14_15 q cI cJ cD Mh Mn Mm Mt) (gA q [14, 15])) ([.ref (q 14), .int p1] : List Value).toArray s 0 0 (gA q [14, 15])) (F0 m 4 ls []) := by
    intro n4
    induction n4 with
    | zero =>
      intro x1 x2 x3 hf
      exact nomatch (show (none : Option Int32) = some r0 from hf)
    | succ n4 ih4 =>
      intro x1 x2 x3 hf H locs hP hS ls hl
      have hf : fX9_startOf_B4 N Mh Mn Mm Mt (fX9_startOf_H4 N Mh Mn Mm Mt n4) x1 x2 x3 = some r0 := hf
      unfold fX9_startOf_B4 at hf
      refine lv_iload_n hx hb dX9_startOf_4 rfl (lv_at hl 2 rfl) ?_
      refine lv_aload_n hx hb dX9_startOf_5 rfl (lv_at hl 0 rfl) ?_
      refine va_get (D := D) (ci := 7) (v := .int Mn) (C := RX9) (T := TX9) (N := 11) hx hb hts huX9 hown hE.1 hP 0 rfl rfl 1 (by decide) hk39 (fun _ h9 => h9) rfl dX9_startOf_6 ?_
      refine lv_icmp_ge (tgt := 32) hx hb dX9_startOf_9 (by decide) (fun c_2 => ?_) (fun c_2 => ?_)
      · have hf := (if_pos c_2).symm.trans hf
        exact J32 x1 x2 x3 hf _ _ hP hS _ (lv_sub hl [1, 2, 3] rfl)
      · have hf := (if_neg c_2).symm.trans hf
        refine lv_iload_n hx hb dX9_startOf_12 rfl (lv_at hl 3 rfl) ?_
        refine lv_iload_n hx hb dX9_startOf_13 rfl (lv_at hl 1 rfl) ?_
        refine lv_icmp_ge (tgt := 32) hx hb dX9_startOf_14 (by decide) (fun c_3 => ?_) (fun c_3 => ?_)
        · have hf := (if_pos c_3).symm.trans hf
          exact J32 x1 x2 x3 hf _ _ hP hS _ (lv_sub hl [1, 2, 3] rfl)
        · have hf := (if_neg c_3).symm.trans hf
          refine lv_iload_n hx hb dX9_startOf_17 rfl (lv_at hl 2 rfl) ?_
          refine lv_aload_n hx hb dX9_startOf_18 rfl (lv_at hl 0 rfl) ?_
          refine lv_iload_n hx hb dX9_startOf_19 rfl (lv_at hl 2 rfl) ?_
          refine lv_iconst (v := (0 : Int32)) hx hb dX9_startOf_20 (by decide) ?_
          obtain ⟨r21, hc, hf⟩ := bn_some hf
          try dsimp only at hf
          refine g_call0 (ws' := (w_14_15 q cI cJ cD Mh Mn Mm Mt)) (st1 := [.int r21, .int x2]) hq [14, 15] [14, 15] [.inl 0, .inl 1] (va_runV (As := [.int x2, .int (0 : Int32)]) (rest := [.int x2]) ⟨hx, hb, hml, hown, hts⟩ (kX9_longest l D cI cJ cD q hq N Mh Mn Mm Mt x2 (0 : Int32) r21 hc) (cwV 2 hts gX9_startOf_X9_longest rfl rfl rfl (by decide +kernel) ⟨(Nat.le_of_ble_eq_true rfl), (Nat.le_of_ble_eq_true rfl)⟩) ⟨gP_blind, va_recv hE.1 hP (ci := 7) (q0 := 0) rfl rfl, fun U hU hW => ⟨rfl, by rw [hU]; exact hP.sub (ws' := (w_14_15 q cI cJ cD Mh Mn Mm Mt)) [0, 1] rfl, gEv.warm hW hE⟩⟩ rfl rfl hl.1 rfl (lv_room (Nat.le_of_ble_eq_true rfl)) dX9_startOf_21 ⟨Nat.zero_le _, Nat.zero_le _⟩) hP hS (gSub rfl) rfl rfl rfl rfl rfl (fun H locs hP hS => ?_)
          refine lv_iadd hx hb dX9_startOf_24 ?_
          refine lv_istore_n (lv' := [(2, .int (x2 + r21)), (0, .ref (q 14)), (1, .int x1), (3, .int x3)]) hx hb dX9_startOf_25 rfl hl (by decide) rfl (fun ls hl => ?_)
          refine lv_iinc (v := (x3 + 1)) (lv' := [(3, .int (x3 + 1)), (2, .int (x2 + r21)), (0, .ref (q 14)), (1, .int x1)]) hx hb dX9_startOf_26 hl (k := 3) rfl rfl (by decide) rfl (fun ls hl => ?_)
          refine lv_goto (tgt := 4) hx hb dX9_startOf_29 (by decide) ?_
          exact ih4 x1 (x2 + r21) (x3 + 1) hf _ _ hP hS _ (lv_sub hl [2, 3, 1, 0] rfl)
  unfold fX9_startOf at hf
  refine lv_iconst (v := (0 : Int32)) hx hb dX9_startOf_0 (by decide) ?_
  refine lv_istore_n (lv' := [(2, .int (0 : Int32)), (0, .ref (q 14)), (1, .int p1)]) hx hb dX9_startOf_1 rfl hl (by decide) rfl (fun ls hl => ?_)
  refine lv_iconst (v := (0 : Int32)) hx hb dX9_startOf_2 (by decide) ?_
  refine lv_istore_n (lv' := [(3, .int (0 : Int32)), (2, .int (0 : Int32)), (0, .ref (q 14)), (1, .int p1)]) hx hb dX9_startOf_3 rfl hl (by decide) rfl (fun ls hl => ?_)
  exact K4 N p1 (0 : Int32) (0 : Int32) hf _ _ hP hS _ (lv_sub hl [2, 3, 1, 0] rfl)
set_option maxHeartbeats 4000000 in
set_option maxRecDepth 100000 in
theorem kX9_factorMany (l : Launch) (D : va_G) (cI cJ cD : ClassId) (q : Nat → Nat) (hq : gInj q) (N : Nat) (Mh : Int32) (Mn : Int32) (Mm : Int32) (Mt : (Nat → Int32)) (r0 : Int32) (hf : fX9_factorMany N Mh Mn Mm Mt = some r0) : Met l yX9_factorMany wsX9_factorMany rX9_factorMany (gP D cI cJ cD [.ref (q 14)] (w_14_15 q cI cJ cD Mh Mn Mm Mt)) (gQ D (some (.int r0)) (w_14_15 q cI cJ cD Mh Mn Mm Mt) (gA q [14, 15])) 0 0 (gA q [14, 15]) := by
  refine Met.ofW (cc := cX9_factorMany) (maxL := 3) (ret := (some .int)) (by decide +kernel) rfl ?_
  intro p e s m args below meth c s₁ B hml hv
  obtain ⟨rfl, hP, hE⟩ := hv
  have hx := B.exec
  have hb := B.bytes
  have hr := B.returns
  have hts := atoms_spec (ws := wsX9_factorMany) B.pre
  have hown : s.vm.findClass RX9 = some m.cls := findClass_of_methodNamed B.named
  have hlocks := B.notSynchronized
  have hS : va_S (gA q [14, 15]) s.heap s.heap [] := va_S.rf
  have hl := lv_entry ([.ref (q 14)]) (n := 3) (Nat.le_of_ble_eq_true rfl)
  rw [lg_entry_eq]
  generalize (lg_sl ([.ref (q 14)]) ++ List.replicate (3 - (lg_sl ([.ref (q 14)])).length) Slot.unset).toArray = ls at hl ⊢
  have hl : lv_has ls 3 [(0, .ref (q 14))] := hl
  have hk39 := hts (.fieldLink RX9 39 "LyndonTextModel" "length" "I") (by decide +kernel)
  have huX9 : ∀ w ∈ u_ws RX9 TX9 11, w ∈ wsX9_factorMany := by decide +kernel
  have J27 : ∀ (x1 : Int32), fX9_factorMany_J27 N Mh Mn Mm Mt x1 = some r0 → ∀ (H : Heap) (locs : List Loc), va_P D vwCl (w_14_15 q cI cJ cD Mh Mn Mm Mt) H → va_S (gA q [14, 15]) s.heap H locs → ∀ ls : Array Slot, lv_has ls 3 [(1, .int x1)] → W p l e (headSpec wsX9_factorMany rX9_factorMany).room s m ([.ref (q 14)] : List Value).toArray below meth c H locs 0 0 (MQ below (gQ D (some (.int r0)) (w_14_15 q cI cJ cD Mh Mn Mm Mt) (gA q [14, 15])) ([.ref (q 14)] : List Value).toArray s 0 0 (gA q [14, 15])) (F0 m 27 ls []) := by
    intro x1 hf H locs hP hS ls hl
    unfold fX9_factorMany_J27 at hf
    refine lv_iload_n hx hb dX9_factorMany_27 rfl (lv_at hl 0 rfl) ?_
    cases hf
    exact W.iret hx hb hr (fun t ht hW => ⟨⟨rfl, by rw [ht]; exact hP⟩, hS.F ht⟩) hS.2.2 dX9_factorMany_28
  have K4 : ∀ (n4 : Nat) (x1 : Int32) (x2 : Int32), fX9_factorMany_H4 N Mh Mn Mm Mt n4 x1 x2 = some r0 → ∀ (H : Heap) (locs : List Loc), va_P D vwCl (w_14_15 q cI cJ cD Mh Mn Mm Mt) H → va_S (gA q [14, 15]) s.heap H locs → ∀ ls : Array Slot, lv_has ls 3 [(0, .ref (q 14)), (1, .int x1), (2, .int x2)] → W p l e (headSpec wsX9_factorMany rX9_factorMany).room s m ([.ref (q 14)] : List Value).toArray below meth c H locs 0 0 (MQ below (gQ D (some (.int r0)) (w_14_15 q cI cJ cD Mh Mn Mm Mt) (gA q [14, 15])) ([.ref (q 14)] : List Value).toArray s 0 0 (gA q [14, 15])) (F0 m 4 ls []) := by
    intro n4
    induction n4 with
    | zero =>
      intro x1 x2 hf
      exact nomatch (show (none : Option Int32) = some r0 from hf)
    | succ n4 ih4 =>
      intro x1 x2 hf H locs hP hS ls hl
      have hf : fX9_factorMany_B4 N Mh Mn Mm Mt (fX9_factorMany_H4 N Mh Mn Mm Mt n4) x1 x2 = some r0 := hf
      unfold fX9_factorMany_B4 at hf
      refine lv_iload_n hx hb dX9_factorMany_4 rfl (lv_at hl 2 rfl) ?_
      refine lv_aload_n hx hb dX9_factorMany_5 rfl (lv_at hl 0 rfl) ?_
      refine va_get (D := D) (ci := 7) (v := .int Mn) (C := RX9) (T := TX9) (N := 11) hx hb hts huX9 hown hE.1 hP 0 rfl rfl 1 (by decide) hk39 (fun _ h9 => h9) rfl dX9_factorMany_6 ?_
      refine lv_icmp_ge (tgt := 27) hx hb dX9_factorMany_9 (by decide) (fun c_1 => ?_) (fun c_1 => ?_)
      · have hf := (if_pos c_1).symm.trans hf
        exact J27 x1 hf _ _ hP hS _ (lv_sub hl [1] rfl)
      · have hf := (if_neg c_1).symm.trans hf
        refine lv_iinc (v := (x1 + 1)) (lv' := [(1, .int (x1 + 1)), (0, .ref (q 14)), (2, .int x2)]) hx hb dX9_factorMany_12 hl (k := 1) rfl rfl (by decide) rfl (fun ls hl => ?_)
        refine lv_iload_n hx hb dX9_factorMany_15 rfl (lv_at hl 2 rfl) ?_
        refine lv_aload_n hx hb dX9_factorMany_16 rfl (lv_at hl 1 rfl) ?_
        refine lv_iload_n hx hb dX9_factorMany_17 rfl (lv_at hl 2 rfl) ?_
        refine lv_iconst (v := (0 : Int32)) hx hb dX9_factorMany_18 (by decide) ?_
        obtain ⟨r19, hc, hf⟩ := bn_some hf
        try dsimp only at hf
        refine g_call0 (ws' := (w_14_15 q cI cJ cD Mh Mn Mm Mt)) (st1 := [.int r19, .int x2]) hq [14, 15] [14, 15] [.inl 0, .inl 1] (va_runV (As := [.int x2, .int (0 : Int32)]) (rest := [.int x2]) ⟨hx, hb, hml, hown, hts⟩ (kX9_longest l D cI cJ cD q hq N Mh Mn Mm Mt x2 (0 : Int32) r19 hc) (cwV 2 hts gX9_factorMany_X9_longest rfl rfl rfl (by decide +kernel) ⟨(Nat.le_of_ble_eq_true rfl), (Nat.le_of_ble_eq_true rfl)⟩) ⟨gP_blind, va_recv hE.1 hP (ci := 7) (q0 := 0) rfl rfl, fun U hU hW => ⟨rfl, by rw [hU]; exact hP.sub (ws' := (w_14_15 q cI cJ cD Mh Mn Mm Mt)) [0, 1] rfl, gEv.warm hW hE⟩⟩ rfl rfl hl.1 rfl (lv_room (Nat.le_of_ble_eq_true rfl)) dX9_factorMany_19 ⟨Nat.zero_le _, Nat.zero_le _⟩) hP hS (gSub rfl) rfl rfl rfl rfl rfl (fun H locs hP hS => ?_)
        refine lv_iadd hx hb dX9_factorMany_22 ?_
        refine lv_istore_n (lv' := [(2, .int (x2 + r19)), (1, .int (x1 + 1)), (0, .ref (q 14))]) hx hb dX9_factorMany_23 rfl hl (by decide) rfl (fun ls hl => ?_)
        refine lv_goto (tgt := 4) hx hb dX9_factorMany_24 (by decide) ?_
        exact ih4 (x1 + 1) (x2 + r19) hf _ _ hP hS _ (lv_sub hl [2, 1, 0] rfl)
  unfold fX9_factorMany at hf
  refine lv_iconst (v := (0 : Int32)) hx hb dX9_factorMany_0 (by decide) ?_
  refine lv_istore_n (lv' := [(1, .int (0 : Int32)), (0, .ref (q 14))]) hx hb dX9_factorMany_1 rfl hl (by decide) rfl (fun ls hl => ?_)
  refine lv_iconst (v := (0 : Int32)) hx hb dX9_factorMany_2 (by decide) ?_
  refine lv_istore_n (lv' := [(2, .int (0 : Int32)), (1, .int (0 : Int32)), (0, .ref (q 14))]) hx hb dX9_factorMany_3 rfl hl (by decide) rfl (fun ls hl => ?_)
  exact K4 N (0 : Int32) (0 : Int32) hf _ _ hP hS _ (lv_sub hl [2, 1, 0] rfl)
set_option maxHeartbeats 4000000 in
set_option maxRecDepth 100000 in
theorem kX9_factors (l : Launch) (D : va_G) (cI cJ cD : ClassId) (q : Nat → Nat) (hq : gInj q) (N : Nat) (Mh : Int32) (Mn : Int32) (Mm : Int32) (Mt : (Nat → Int32)) (r0 : Int32) (Mh9 : Int32) (hf : fX9_factors N Mh Mn Mm Mt = some (r0, Mh9)) : Met l yX9_factors wsX9_factors rX9_factors (gP D cI cJ cD [.ref (q 14)] (w_14_15 q cI cJ cD Mh Mn Mm Mt)) (gQ D (some (.int r0)) (w_14_15 q cI cJ cD Mh9 Mn Mm Mt) (gA q [14, 15])) 0 0 (gA q [14, 15]) := by
  refine Met.ofW (cc := cX9_factors) (maxL := 1) (ret := (some .int)) (by decide +kernel) rfl ?_
  intro p e s m args below meth c s₁ B hml hv
  obtain ⟨rfl, hP, hE⟩ := hv
  have hx := B.exec
  have hb := B.bytes
  have hr := B.returns
  have hts := atoms_spec (ws := wsX9_factors) B.pre
  have hown : s.vm.findClass RX9 = some m.cls := findClass_of_methodNamed B.named
  have hlocks := B.notSynchronized
  have hS : va_S (gA q [14, 15]) s.heap s.heap [] := va_S.rf
  have hl := lv_entry ([.ref (q 14)]) (n := 1) (Nat.le_of_ble_eq_true rfl)
  rw [lg_entry_eq]
  generalize (lg_sl ([.ref (q 14)]) ++ List.replicate (1 - (lg_sl ([.ref (q 14)])).length) Slot.unset).toArray = ls at hl ⊢
  have hl : lv_has ls 1 [(0, .ref (q 14))] := hl
  have hDm : ∀ (z0 : Int32) (z1 : Int32) (z2 : Int32) (z3 : (Nat → Int32)), va_D (gA q [14, 15]) (w_14_15 q cI cJ cD z0 z1 z2 z3) := fun _ _ _ _ => gD_of hq [14, 15] rfl rfl rfl (fun k h => ⟨k, h, rfl⟩)
  have hk35 := hts (.fieldLink RX9 35 "LyndonTextModel" "thrown" "I") (by decide +kernel)
  have huX9 : ∀ w ∈ u_ws RX9 TX9 11, w ∈ wsX9_factors := by decide +kernel
  unfold fX9_factors at hf
  refine lv_aload_n hx hb dX9_factors_0 rfl (lv_at hl 0 rfl) ?_
  refine lv_iconst (v := (0 : Int32)) hx hb dX9_factors_1 (by decide) ?_
  refine va_put (D := D) (ci := 7) (v := .int (0 : Int32)) (ty := .int) (C := RX9) (T := TX9) (N := 11) hx hb hts huX9 tyX9 tyX9_ok nmX9 hown hE.1 hP (hDm Mh Mn Mm Mt) hS 0 rfl rfl 0 (by decide) hk35 (fun _ h9 => h9) rfl (by decide +kernel) rfl rfl (Nat.le_of_ble_eq_true rfl) dX9_factors_2 (fun H locs hP _ hS => ?_)
  have hP : va_P D vwCl (w_14_15 q cI cJ cD (0 : Int32) Mn Mm Mt) H := hP
  refine lv_aload_n hx hb dX9_factors_5 rfl (lv_at hl 0 rfl) ?_
  obtain ⟨r6, hc, hf⟩ := bn_some hf
  try dsimp only at hf
  refine g_call0 (ws' := (w_14_15 q cI cJ cD (0 : Int32) Mn Mm Mt)) (st1 := [.int r6]) hq [14, 15] [14, 15] [.inl 0, .inl 1] (va_runV (As := []) (rest := []) ⟨hx, hb, hml, hown, hts⟩ (kX9_factorMany l D cI cJ cD q hq N (0 : Int32) Mn Mm Mt r6 hc) (cwV 0 hts gX9_factors_X9_factorMany rfl rfl rfl (by decide +kernel) ⟨(Nat.le_of_ble_eq_true rfl), (Nat.le_of_ble_eq_true rfl)⟩) ⟨gP_blind, va_recv hE.1 hP (ci := 7) (q0 := 0) rfl rfl, fun U hU hW => ⟨rfl, by rw [hU]; exact hP.sub (ws' := (w_14_15 q cI cJ cD (0 : Int32) Mn Mm Mt)) [0, 1] rfl, gEv.warm hW hE⟩⟩ rfl rfl hl.1 rfl (lv_room (Nat.le_of_ble_eq_true rfl)) dX9_factors_6 ⟨Nat.zero_le _, Nat.zero_le _⟩) hP hS (gSub rfl) rfl rfl rfl rfl rfl (fun H locs hP hS => ?_)
  cases hf
  exact W.iret hx hb hr (fun t ht hW => ⟨⟨rfl, by rw [ht]; exact hP⟩, hS.F ht⟩) hS.2.2 dX9_factors_9
set_option maxHeartbeats 4000000 in
set_option maxRecDepth 100000 in
theorem kX9_factorStart (l : Launch) (D : va_G) (cI cJ cD : ClassId) (q : Nat → Nat) (hq : gInj q) (N : Nat) (Mh : Int32) (Mn : Int32) (Mm : Int32) (Mt : (Nat → Int32)) (p1 : Int32) (r0 : Int32) (Mh9 : Int32) (hf : fX9_factorStart N Mh Mn Mm Mt p1 = some (r0, Mh9)) : Met l yX9_factorStart wsX9_factorStart rX9_factorStart (gP D cI cJ cD [.ref (q 14), .int p1] (w_14_15 q cI cJ cD Mh Mn Mm Mt)) (gQ D (some (.int r0)) (w_14_15 q cI cJ cD Mh9 Mn Mm Mt) (gA q [14, 15])) 0 0 (gA q [14, 15]) := by
  refine Met.ofW (cc := cX9_factorStart) (maxL := 2) (ret := (some .int)) (by decide +kernel) rfl ?_
  intro p e s m args below meth c s₁ B hml hv
  obtain ⟨rfl, hP, hE⟩ := hv
  have hx := B.exec
  have hb := B.bytes
  have hr := B.returns
  have hts := atoms_spec (ws := wsX9_factorStart) B.pre
  have hown : s.vm.findClass RX9 = some m.cls := findClass_of_methodNamed B.named
  have hlocks := B.notSynchronized
  have hS : va_S (gA q [14, 15]) s.heap s.heap [] := va_S.rf
  have hl := lv_entry ([.ref (q 14), .int p1]) (n := 2) (Nat.le_of_ble_eq_true rfl)
  rw [lg_entry_eq]
  generalize (lg_sl ([.ref (q 14), .int p1]) ++ List.replicate (2 - (lg_sl ([.ref (q 14), .int p1])).length) Slot.unset).toArray = ls at hl ⊢
  have hl : lv_has ls 2 [(0, .ref (q 14)), (1, .int p1)] := hl
  have J35 : ∀ (Mh : Int32) (y0 : Int32), fX9_factorStart_J35 N Mn Mm Mt Mh y0 = some (r0, Mh9) → ∀ (H : Heap) (locs : List Loc), va_P D vwCl (w_14_15 q cI cJ cD Mh Mn Mm Mt) H → va_S (gA q [14, 15]) s.heap H locs → ∀ ls : Array Slot, lv_has ls 2 [] → W p l e (headSpec wsX9_factorStart rX9_factorStart).room s m ([.ref (q 14), .int p1] : List Value).toArray below meth c H locs 0 0 (MQ below (gQ D (some (.int r0)) (w_14_15 q cI cJ cD Mh9 Mn Mm Mt) (gA q [14, 15])) ([.ref (q 14), .int p1] : List Value).toArray s 0 0 (gA q [14, 15])) (F0 m 35 ls [.int y0]) := by
    intro Mh y0 hf H locs hP hS ls hl
    unfold fX9_factorStart_J35 at hf
    cases hf
    exact W.iret hx hb hr (fun t ht hW => ⟨⟨rfl, by rw [ht]; exact hP⟩, hS.F ht⟩) hS.2.2 dX9_factorStart_35
  have J20 : ∀ (Mh : Int32) (x1 : Int32) (y1 : Int32), fX9_factorStart_J20 N Mn Mm Mt Mh x1 y1 = some (r0, Mh9) → ∀ (H : Heap) (locs : List Loc), va_P D vwCl (w_14_15 q cI cJ cD Mh Mn Mm Mt) H → va_S (gA q [14, 15]) s.heap H locs → ∀ ls : Array Slot, lv_has ls 2 [(0, .ref (q 14)), (1, .int x1)] → W p l e (headSpec wsX9_factorStart rX9_factorStart).room s m ([.ref (q 14), .int p1] : List Value).toArray below meth c H locs 0 0 (MQ below (gQ D (some (.int r0)) (w_14_15 q cI cJ cD Mh9 Mn Mm Mt) (gA q [14, 15])) ([.ref (q 14), .int p1] : List Value).toArray s 0 0 (gA q [14, 15])) (F0 m 20 ls [.int y1, .ref (q 14)]) := by
    intro Mh x1 y1 hf H locs hP hS ls hl
    unfold fX9_factorStart_J20 at hf
    obtain ⟨⟨r20, Mh20⟩, hc, hf⟩ := bn_some hf
    try dsimp only at hf
    refine g_call0 (ws' := (w_14_15 q cI cJ cD Mh20 Mn Mm Mt)) (st1 := [.int r20]) hq [14, 15] [14] [.inl 0, .inr 1] (va_runV (As := [.int y1]) (rest := []) ⟨hx, hb, hml, hown, hts⟩ (kX9_goesWell l D cI cJ cD q hq N Mh Mn Mm y1 r20 Mh20 hc) (cwV 1 hts gX9_factorStart_X9_goesWell rfl rfl rfl (by decide +kernel) ⟨(Nat.le_of_ble_eq_true rfl), (Nat.le_of_ble_eq_true rfl)⟩) ⟨gP_blind, va_recv hE.1 hP (ci := 7) (q0 := 0) rfl rfl, fun U hU hW => ⟨rfl, by rw [hU]; exact hP.sub (ws' := (w_14 q cI cJ cD Mh Mn Mm)) [0] rfl, gEv.warm hW hE⟩⟩ rfl rfl hl.1 rfl (lv_room (Nat.le_of_ble_eq_true rfl)) dX9_factorStart_20 ⟨Nat.zero_le _, Nat.zero_le _⟩) hP hS (gSub rfl) rfl rfl rfl rfl rfl (fun H locs hP hS => ?_)
    refine lv_if_eq (tgt := 34) hx hb dX9_factorStart_23 (by decide) (fun c_1 => ?_) (fun c_1 => ?_)
    · have hf := (if_pos c_1).symm.trans hf
      refine lv_iconst (v := (0 : Int32)) hx hb dX9_factorStart_34 (by decide) ?_
      exact J35 Mh20 (0 : Int32) hf _ _ hP hS _ (lv_sub hl [] rfl)
    · have hf := (if_neg c_1).symm.trans hf
      refine lv_aload_n hx hb dX9_factorStart_26 rfl (lv_at hl 0 rfl) ?_
      refine lv_iload_n hx hb dX9_factorStart_27 rfl (lv_at hl 1 rfl) ?_
      obtain ⟨r28, hc, hf⟩ := bn_some hf
      try dsimp only at hf
      refine g_call0 (ws' := (w_14_15 q cI cJ cD Mh20 Mn Mm Mt)) (st1 := [.int r28]) hq [14, 15] [14, 15] [.inl 0, .inl 1] (va_runV (As := [.int x1]) (rest := []) ⟨hx, hb, hml, hown, hts⟩ (kX9_startOf l D cI cJ cD q hq N Mh20 Mn Mm Mt x1 r28 hc) (cwV 1 hts gX9_factorStart_X9_startOf rfl rfl rfl (by decide +kernel) ⟨(Nat.le_of_ble_eq_true rfl), (Nat.le_of_ble_eq_true rfl)⟩) ⟨gP_blind, va_recv hE.1 hP (ci := 7) (q0 := 0) rfl rfl, fun U hU hW => ⟨rfl, by rw [hU]; exact hP.sub (ws' := (w_14_15 q cI cJ cD Mh20 Mn Mm Mt)) [0, 1] rfl, gEv.warm hW hE⟩⟩ rfl rfl hl.1 rfl (lv_room (Nat.le_of_ble_eq_true rfl)) dX9_factorStart_28 ⟨Nat.zero_le _, Nat.zero_le _⟩) hP hS (gSub rfl) rfl rfl rfl rfl rfl (fun H locs hP hS => ?_)
      refine lv_goto (tgt := 35) hx hb dX9_factorStart_31 (by decide) ?_
      exact J35 Mh20 r28 hf _ _ hP hS _ (lv_sub hl [] rfl)
  unfold fX9_factorStart at hf
  refine lv_aload_n hx hb dX9_factorStart_0 rfl (lv_at hl 0 rfl) ?_
  refine lv_iload_n hx hb dX9_factorStart_1 rfl (lv_at hl 1 rfl) ?_
  refine lv_iconst (v := (0 : Int32)) hx hb dX9_factorStart_2 (by decide) ?_
  refine lv_aload_n hx hb dX9_factorStart_3 rfl (lv_at hl 0 rfl) ?_
  obtain ⟨r4, hc, hf⟩ := bn_some hf
  try dsimp only at hf
  refine g_call0 (ws' := (w_14_15 q cI cJ cD Mh Mn Mm Mt)) (st1 := [.int r4, .int (0 : Int32), .int p1, .ref (q 14)]) hq [14, 15] [14, 15] [.inl 0, .inl 1] (va_runV (As := []) (rest := [.int (0 : Int32), .int p1, .ref (q 14)]) ⟨hx, hb, hml, hown, hts⟩ (kX9_factorMany l D cI cJ cD q hq N Mh Mn Mm Mt r4 hc) (cwV 0 hts gX9_factorStart_X9_factorMany rfl rfl rfl (by decide +kernel) ⟨(Nat.le_of_ble_eq_true rfl), (Nat.le_of_ble_eq_true rfl)⟩) ⟨gP_blind, va_recv hE.1 hP (ci := 7) (q0 := 0) rfl rfl, fun U hU hW => ⟨rfl, by rw [hU]; exact hP.sub (ws' := (w_14_15 q cI cJ cD Mh Mn Mm Mt)) [0, 1] rfl, gEv.warm hW hE⟩⟩ rfl rfl hl.1 rfl (lv_room (Nat.le_of_ble_eq_true rfl)) dX9_factorStart_4 ⟨Nat.zero_le _, Nat.zero_le _⟩) hP hS (gSub rfl) rfl rfl rfl rfl rfl (fun H locs hP hS => ?_)
  refine lv_iconst (v := (1 : Int32)) hx hb dX9_factorStart_7 (by decide) ?_
  refine lv_isub hx hb dX9_factorStart_8 ?_
  obtain ⟨r9, hc, hf⟩ := bn_some hf
  try dsimp only at hf
  refine g_call0 (ws' := (w_14_15 q cI cJ cD Mh Mn Mm Mt)) (st1 := [.int r9, .ref (q 14)]) hq [14, 15] [] [.inr 0, .inr 1] (va_runS (As := [.int p1, .int (0 : Int32), .int (r4 - (1 : Int32))]) (rest := [.ref (q 14)]) ⟨hx, hb, hml, hown, hts⟩ (kX9_in l D cI cJ cD q hq N p1 (0 : Int32) (r4 - (1 : Int32)) r9 hc) (va_cwS 3 hts gX9_factorStart_X9_in rfl rfl rfl (by decide +kernel) ⟨(Nat.le_of_ble_eq_true rfl), (Nat.le_of_ble_eq_true rfl)⟩) ⟨gP_blind, fun U hU hW => ⟨rfl, by rw [hU]; exact hP.sub (ws' := (w_0none q cI cJ cD)) [] rfl, gEv.warm hW hE⟩⟩ rfl rfl hl.1 rfl (lv_room (Nat.le_of_ble_eq_true rfl)) dX9_factorStart_9 ⟨Nat.zero_le _, Nat.zero_le _⟩) hP hS (gSub rfl) rfl rfl rfl rfl rfl (fun H locs hP hS => ?_)
  refine lv_if_eq (tgt := 19) hx hb dX9_factorStart_12 (by decide) (fun c_2 => ?_) (fun c_2 => ?_)
  · have hf := (if_pos c_2).symm.trans hf
    refine lv_iconst (v := (1 : Int32)) hx hb dX9_factorStart_19 (by decide) ?_
    exact J20 Mh p1 (1 : Int32) hf _ _ hP hS _ (lv_sub hl [0, 1] rfl)
  · have hf := (if_neg c_2).symm.trans hf
    refine lv_iconst (v := (0 : Int32)) hx hb dX9_factorStart_15 (by decide) ?_
    refine lv_goto (tgt := 20) hx hb dX9_factorStart_16 (by decide) ?_
    exact J20 Mh p1 (0 : Int32) hf _ _ hP hS _ (lv_sub hl [0, 1] rfl)
set_option maxHeartbeats 4000000 in
set_option maxRecDepth 100000 in
theorem kX9_factorLength (l : Launch) (D : va_G) (cI cJ cD : ClassId) (q : Nat → Nat) (hq : gInj q) (N : Nat) (Mh : Int32) (Mn : Int32) (Mm : Int32) (Mt : (Nat → Int32)) (p1 : Int32) (r0 : Int32) (Mh9 : Int32) (hf : fX9_factorLength N Mh Mn Mm Mt p1 = some (r0, Mh9)) : Met l yX9_factorLength wsX9_factorLength rX9_factorLength (gP D cI cJ cD [.ref (q 14), .int p1] (w_14_15 q cI cJ cD Mh Mn Mm Mt)) (gQ D (some (.int r0)) (w_14_15 q cI cJ cD Mh9 Mn Mm Mt) (gA q [14, 15])) 0 0 (gA q [14, 15]) := by
  refine Met.ofW (cc := cX9_factorLength) (maxL := 2) (ret := (some .int)) (by decide +kernel) rfl ?_
  intro p e s m args below meth c s₁ B hml hv
  obtain ⟨rfl, hP, hE⟩ := hv
  have hx := B.exec
  have hb := B.bytes
  have hr := B.returns
  have hts := atoms_spec (ws := wsX9_factorLength) B.pre
  have hown : s.vm.findClass RX9 = some m.cls := findClass_of_methodNamed B.named
  have hlocks := B.notSynchronized
  have hS : va_S (gA q [14, 15]) s.heap s.heap [] := va_S.rf
  have hl := lv_entry ([.ref (q 14), .int p1]) (n := 2) (Nat.le_of_ble_eq_true rfl)
  rw [lg_entry_eq]
  generalize (lg_sl ([.ref (q 14), .int p1]) ++ List.replicate (2 - (lg_sl ([.ref (q 14), .int p1])).length) Slot.unset).toArray = ls at hl ⊢
  have hl : lv_has ls 2 [(0, .ref (q 14)), (1, .int p1)] := hl
  have J40 : ∀ (Mh : Int32) (y0 : Int32), fX9_factorLength_J40 N Mn Mm Mt Mh y0 = some (r0, Mh9) → ∀ (H : Heap) (locs : List Loc), va_P D vwCl (w_14_15 q cI cJ cD Mh Mn Mm Mt) H → va_S (gA q [14, 15]) s.heap H locs → ∀ ls : Array Slot, lv_has ls 2 [] → W p l e (headSpec wsX9_factorLength rX9_factorLength).room s m ([.ref (q 14), .int p1] : List Value).toArray below meth c H locs 0 0 (MQ below (gQ D (some (.int r0)) (w_14_15 q cI cJ cD Mh9 Mn Mm Mt) (gA q [14, 15])) ([.ref (q 14), .int p1] : List Value).toArray s 0 0 (gA q [14, 15])) (F0 m 40 ls [.int y0]) := by
    intro Mh y0 hf H locs hP hS ls hl
    unfold fX9_factorLength_J40 at hf
    cases hf
    exact W.iret hx hb hr (fun t ht hW => ⟨⟨rfl, by rw [ht]; exact hP⟩, hS.F ht⟩) hS.2.2 dX9_factorLength_40
  have J20 : ∀ (Mh : Int32) (x1 : Int32) (y1 : Int32), fX9_factorLength_J20 N Mn Mm Mt Mh x1 y1 = some (r0, Mh9) → ∀ (H : Heap) (locs : List Loc), va_P D vwCl (w_14_15 q cI cJ cD Mh Mn Mm Mt) H → va_S (gA q [14, 15]) s.heap H locs → ∀ ls : Array Slot, lv_has ls 2 [(0, .ref (q 14)), (1, .int x1)] → W p l e (headSpec wsX9_factorLength rX9_factorLength).room s m ([.ref (q 14), .int p1] : List Value).toArray below meth c H locs 0 0 (MQ below (gQ D (some (.int r0)) (w_14_15 q cI cJ cD Mh9 Mn Mm Mt) (gA q [14, 15])) ([.ref (q 14), .int p1] : List Value).toArray s 0 0 (gA q [14, 15])) (F0 m 20 ls [.int y1, .ref (q 14)]) := by
    intro Mh x1 y1 hf H locs hP hS ls hl
    unfold fX9_factorLength_J20 at hf
    obtain ⟨⟨r20, Mh20⟩, hc, hf⟩ := bn_some hf
    try dsimp only at hf
    refine g_call0 (ws' := (w_14_15 q cI cJ cD Mh20 Mn Mm Mt)) (st1 := [.int r20]) hq [14, 15] [14] [.inl 0, .inr 1] (va_runV (As := [.int y1]) (rest := []) ⟨hx, hb, hml, hown, hts⟩ (kX9_goesWell l D cI cJ cD q hq N Mh Mn Mm y1 r20 Mh20 hc) (cwV 1 hts gX9_factorLength_X9_goesWell rfl rfl rfl (by decide +kernel) ⟨(Nat.le_of_ble_eq_true rfl), (Nat.le_of_ble_eq_true rfl)⟩) ⟨gP_blind, va_recv hE.1 hP (ci := 7) (q0 := 0) rfl rfl, fun U hU hW => ⟨rfl, by rw [hU]; exact hP.sub (ws' := (w_14 q cI cJ cD Mh Mn Mm)) [0] rfl, gEv.warm hW hE⟩⟩ rfl rfl hl.1 rfl (lv_room (Nat.le_of_ble_eq_true rfl)) dX9_factorLength_20 ⟨Nat.zero_le _, Nat.zero_le _⟩) hP hS (gSub rfl) rfl rfl rfl rfl rfl (fun H locs hP hS => ?_)
    refine lv_if_eq (tgt := 39) hx hb dX9_factorLength_23 (by decide) (fun c_1 => ?_) (fun c_1 => ?_)
    · have hf := (if_pos c_1).symm.trans hf
      refine lv_iconst (v := (0 : Int32)) hx hb dX9_factorLength_39 (by decide) ?_
      exact J40 Mh20 (0 : Int32) hf _ _ hP hS _ (lv_sub hl [] rfl)
    · have hf := (if_neg c_1).symm.trans hf
      refine lv_aload_n hx hb dX9_factorLength_26 rfl (lv_at hl 0 rfl) ?_
      refine lv_aload_n hx hb dX9_factorLength_27 rfl (lv_at hl 0 rfl) ?_
      refine lv_iload_n hx hb dX9_factorLength_28 rfl (lv_at hl 1 rfl) ?_
      obtain ⟨r29, hc, hf⟩ := bn_some hf
      try dsimp only at hf
      refine g_call0 (ws' := (w_14_15 q cI cJ cD Mh20 Mn Mm Mt)) (st1 := [.int r29, .ref (q 14)]) hq [14, 15] [14, 15] [.inl 0, .inl 1] (va_runV (As := [.int x1]) (rest := [.ref (q 14)]) ⟨hx, hb, hml, hown, hts⟩ (kX9_startOf l D cI cJ cD q hq N Mh20 Mn Mm Mt x1 r29 hc) (cwV 1 hts gX9_factorLength_X9_startOf rfl rfl rfl (by decide +kernel) ⟨(Nat.le_of_ble_eq_true rfl), (Nat.le_of_ble_eq_true rfl)⟩) ⟨gP_blind, va_recv hE.1 hP (ci := 7) (q0 := 0) rfl rfl, fun U hU hW => ⟨rfl, by rw [hU]; exact hP.sub (ws' := (w_14_15 q cI cJ cD Mh20 Mn Mm Mt)) [0, 1] rfl, gEv.warm hW hE⟩⟩ rfl rfl hl.1 rfl (lv_room (Nat.le_of_ble_eq_true rfl)) dX9_factorLength_29 ⟨Nat.zero_le _, Nat.zero_le _⟩) hP hS (gSub rfl) rfl rfl rfl rfl rfl (fun H locs hP hS => ?_)
      refine lv_iconst (v := (0 : Int32)) hx hb dX9_factorLength_32 (by decide) ?_
      obtain ⟨r33, hc, hf⟩ := bn_some hf
      try dsimp only at hf
      refine g_call0 (ws' := (w_14_15 q cI cJ cD Mh20 Mn Mm Mt)) (st1 := [.int r33]) hq [14, 15] [14, 15] [.inl 0, .inl 1] (va_runV (As := [.int r29, .int (0 : Int32)]) (rest := []) ⟨hx, hb, hml, hown, hts⟩ (kX9_longest l D cI cJ cD q hq N Mh20 Mn Mm Mt r29 (0 : Int32) r33 hc) (cwV 2 hts gX9_factorLength_X9_longest rfl rfl rfl (by decide +kernel) ⟨(Nat.le_of_ble_eq_true rfl), (Nat.le_of_ble_eq_true rfl)⟩) ⟨gP_blind, va_recv hE.1 hP (ci := 7) (q0 := 0) rfl rfl, fun U hU hW => ⟨rfl, by rw [hU]; exact hP.sub (ws' := (w_14_15 q cI cJ cD Mh20 Mn Mm Mt)) [0, 1] rfl, gEv.warm hW hE⟩⟩ rfl rfl hl.1 rfl (lv_room (Nat.le_of_ble_eq_true rfl)) dX9_factorLength_33 ⟨Nat.zero_le _, Nat.zero_le _⟩) hP hS (gSub rfl) rfl rfl rfl rfl rfl (fun H locs hP hS => ?_)
      refine lv_goto (tgt := 40) hx hb dX9_factorLength_36 (by decide) ?_
      exact J40 Mh20 r33 hf _ _ hP hS _ (lv_sub hl [] rfl)
  unfold fX9_factorLength at hf
  refine lv_aload_n hx hb dX9_factorLength_0 rfl (lv_at hl 0 rfl) ?_
  refine lv_iload_n hx hb dX9_factorLength_1 rfl (lv_at hl 1 rfl) ?_
  refine lv_iconst (v := (0 : Int32)) hx hb dX9_factorLength_2 (by decide) ?_
  refine lv_aload_n hx hb dX9_factorLength_3 rfl (lv_at hl 0 rfl) ?_
  obtain ⟨r4, hc, hf⟩ := bn_some hf
  try dsimp only at hf
  refine g_call0 (ws' := (w_14_15 q cI cJ cD Mh Mn Mm Mt)) (st1 := [.int r4, .int (0 : Int32), .int p1, .ref (q 14)]) hq [14, 15] [14, 15] [.inl 0, .inl 1] (va_runV (As := []) (rest := [.int (0 : Int32), .int p1, .ref (q 14)]) ⟨hx, hb, hml, hown, hts⟩ (kX9_factorMany l D cI cJ cD q hq N Mh Mn Mm Mt r4 hc) (cwV 0 hts gX9_factorLength_X9_factorMany rfl rfl rfl (by decide +kernel) ⟨(Nat.le_of_ble_eq_true rfl), (Nat.le_of_ble_eq_true rfl)⟩) ⟨gP_blind, va_recv hE.1 hP (ci := 7) (q0 := 0) rfl rfl, fun U hU hW => ⟨rfl, by rw [hU]; exact hP.sub (ws' := (w_14_15 q cI cJ cD Mh Mn Mm Mt)) [0, 1] rfl, gEv.warm hW hE⟩⟩ rfl rfl hl.1 rfl (lv_room (Nat.le_of_ble_eq_true rfl)) dX9_factorLength_4 ⟨Nat.zero_le _, Nat.zero_le _⟩) hP hS (gSub rfl) rfl rfl rfl rfl rfl (fun H locs hP hS => ?_)
  refine lv_iconst (v := (1 : Int32)) hx hb dX9_factorLength_7 (by decide) ?_
  refine lv_isub hx hb dX9_factorLength_8 ?_
  obtain ⟨r9, hc, hf⟩ := bn_some hf
  try dsimp only at hf
  refine g_call0 (ws' := (w_14_15 q cI cJ cD Mh Mn Mm Mt)) (st1 := [.int r9, .ref (q 14)]) hq [14, 15] [] [.inr 0, .inr 1] (va_runS (As := [.int p1, .int (0 : Int32), .int (r4 - (1 : Int32))]) (rest := [.ref (q 14)]) ⟨hx, hb, hml, hown, hts⟩ (kX9_in l D cI cJ cD q hq N p1 (0 : Int32) (r4 - (1 : Int32)) r9 hc) (va_cwS 3 hts gX9_factorLength_X9_in rfl rfl rfl (by decide +kernel) ⟨(Nat.le_of_ble_eq_true rfl), (Nat.le_of_ble_eq_true rfl)⟩) ⟨gP_blind, fun U hU hW => ⟨rfl, by rw [hU]; exact hP.sub (ws' := (w_0none q cI cJ cD)) [] rfl, gEv.warm hW hE⟩⟩ rfl rfl hl.1 rfl (lv_room (Nat.le_of_ble_eq_true rfl)) dX9_factorLength_9 ⟨Nat.zero_le _, Nat.zero_le _⟩) hP hS (gSub rfl) rfl rfl rfl rfl rfl (fun H locs hP hS => ?_)
  refine lv_if_eq (tgt := 19) hx hb dX9_factorLength_12 (by decide) (fun c_2 => ?_) (fun c_2 => ?_)
  · have hf := (if_pos c_2).symm.trans hf
    refine lv_iconst (v := (1 : Int32)) hx hb dX9_factorLength_19 (by decide) ?_
    exact J20 Mh p1 (1 : Int32) hf _ _ hP hS _ (lv_sub hl [0, 1] rfl)
  · have hf := (if_neg c_2).symm.trans hf
    refine lv_iconst (v := (0 : Int32)) hx hb dX9_factorLength_15 (by decide) ?_
    refine lv_goto (tgt := 20) hx hb dX9_factorLength_16 (by decide) ?_
    exact J20 Mh p1 (0 : Int32) hf _ _ hP hS _ (lv_sub hl [0, 1] rfl)
set_option maxHeartbeats 4000000 in
set_option maxRecDepth 100000 in
theorem kX9_factorOver (l : Launch) (D : va_G) (cI cJ cD : ClassId) (q : Nat → Nat) (hq : gInj q) (N : Nat) (Mh : Int32) (Mn : Int32) (Mm : Int32) (Mt : (Nat → Int32)) (p1 : Int32) (r0 : Int32) (Mh9 : Int32) (hf : fX9_factorOver N Mh Mn Mm Mt p1 = some (r0, Mh9)) : Met l yX9_factorOver wsX9_factorOver rX9_factorOver (gP D cI cJ cD [.ref (q 14), .int p1] (w_14_15 q cI cJ cD Mh Mn Mm Mt)) (gQ D (some (.int r0)) (w_14_15 q cI cJ cD Mh9 Mn Mm Mt) (gA q [14, 15])) 0 0 (gA q [14, 15]) := by
  refine Met.ofW (cc := cX9_factorOver) (maxL := 3) (ret := (some .int)) (by decide +kernel) rfl ?_
  intro p e s m args below meth c s₁ B hml hv
  obtain ⟨rfl, hP, hE⟩ := hv
  have hx := B.exec
  have hb := B.bytes
  have hr := B.returns
  have hts := atoms_spec (ws := wsX9_factorOver) B.pre
  have hown : s.vm.findClass RX9 = some m.cls := findClass_of_methodNamed B.named
  have hlocks := B.notSynchronized
  have hS : va_S (gA q [14, 15]) s.heap s.heap [] := va_S.rf
  have hl := lv_entry ([.ref (q 14), .int p1]) (n := 3) (Nat.le_of_ble_eq_true rfl)
  rw [lg_entry_eq]
  generalize (lg_sl ([.ref (q 14), .int p1]) ++ List.replicate (3 - (lg_sl ([.ref (q 14), .int p1])).length) Slot.unset).toArray = ls at hl ⊢
  have hl : lv_has ls 3 [(0, .ref (q 14)), (1, .int p1)] := hl
  have J41 : ∀ (Mh : Int32) (x2 : Int32), fX9_factorOver_J41 N Mn Mm Mt Mh x2 = some (r0, Mh9) → ∀ (H : Heap) (locs : List Loc), va_P D vwCl (w_14_15 q cI cJ cD Mh Mn Mm Mt) H → va_S (gA q [14, 15]) s.heap H locs → ∀ ls : Array Slot, lv_has ls 3 [(2, .int x2)] → W p l e (headSpec wsX9_factorOver rX9_factorOver).room s m ([.ref (q 14), .int p1] : List Value).toArray below meth c H locs 0 0 (MQ below (gQ D (some (.int r0)) (w_14_15 q cI cJ cD Mh9 Mn Mm Mt) (gA q [14, 15])) ([.ref (q 14), .int p1] : List Value).toArray s 0 0 (gA q [14, 15])) (F0 m 41 ls []) := by
    intro Mh x2 hf H locs hP hS ls hl
    unfold fX9_factorOver_J41 at hf
    refine lv_iload_n hx hb dX9_factorOver_41 rfl (lv_at hl 0 rfl) ?_
    cases hf
    exact W.iret hx hb hr (fun t ht hW => ⟨⟨rfl, by rw [ht]; exact hP⟩, hS.F ht⟩) hS.2.2 dX9_factorOver_42
  have K24 : ∀ (n24 : Nat) (Mh : Int32) (x1 : Int32) (x2 : Int32), fX9_factorOver_H24 N Mn Mm Mt n24 Mh x1 x2 = some (r0, Mh9) → ∀ (H : Heap) (locs : List Loc), va_P D vwCl (w_14_15 q cI cJ cD Mh Mn Mm Mt) H → va_S (gA q [14, 15]) s.heap H locs → ∀ ls : Array Slot, lv_has ls 3 [(0, .ref (q 14)), (1, .int x1), (2, .int x2)] → W p l e (headSpec wsX9_factorOver rX9_factorOver).room s m ([.ref (q 14), .int p1] : List Value).toArray below meth c H locs 0 0 (MQ below (gQ D (some (.int r0)) (w_14_15 q cI cJ cD Mh9 Mn Mm Mt) (gA q [14, 15])) ([.ref (q 14), .int p1] : List Value).toArray s 0 0 (gA q [14, 15])) (F0 m 24 ls []) := by
    intro n24
    induction n24 with
    | zero =>
      intro Mh x1 x2 hf
      exact nomatch (show (none : Option (Int32 × Int32)) = some (r0, Mh9) from hf)
    | succ n24 ih24 =>
      intro Mh x1 x2 hf H locs hP hS ls hl
      have hf : fX9_factorOver_B24 N Mn Mm Mt (fX9_factorOver_H24 N Mn Mm Mt n24) Mh x1 x2 = some (r0, Mh9) := hf
      unfold fX9_factorOver_B24 at hf
      refine lv_aload_n hx hb dX9_factorOver_24 rfl (lv_at hl 0 rfl) ?_
      refine lv_iload_n hx hb dX9_factorOver_25 rfl (lv_at hl 2 rfl) ?_
      refine lv_iconst (v := (1 : Int32)) hx hb dX9_factorOver_26 (by decide) ?_
      refine lv_iadd hx hb dX9_factorOver_27 ?_
      obtain ⟨r28, hc, hf⟩ := bn_some hf
      try dsimp only at hf
      refine g_call0 (ws' := (w_14_15 q cI cJ cD Mh Mn Mm Mt)) (st1 := [.int r28]) hq [14, 15] [14, 15] [.inl 0, .inl 1] (va_runV (As := [.int (x2 + (1 : Int32))]) (rest := []) ⟨hx, hb, hml, hown, hts⟩ (kX9_startOf l D cI cJ cD q hq N Mh Mn Mm Mt (x2 + (1 : Int32)) r28 hc) (cwV 1 hts gX9_factorOver_X9_startOf rfl rfl rfl (by decide +kernel) ⟨(Nat.le_of_ble_eq_true rfl), (Nat.le_of_ble_eq_true rfl)⟩) ⟨gP_blind, va_recv hE.1 hP (ci := 7) (q0 := 0) rfl rfl, fun U hU hW => ⟨rfl, by rw [hU]; exact hP.sub (ws' := (w_14_15 q cI cJ cD Mh Mn Mm Mt)) [0, 1] rfl, gEv.warm hW hE⟩⟩ rfl rfl hl.1 rfl (lv_room (Nat.le_of_ble_eq_true rfl)) dX9_factorOver_28 ⟨Nat.zero_le _, Nat.zero_le _⟩) hP hS (gSub rfl) rfl rfl rfl rfl rfl (fun H locs hP hS => ?_)
      refine lv_iload_n hx hb dX9_factorOver_31 rfl (lv_at hl 1 rfl) ?_
      refine lv_icmp_gt (tgt := 41) hx hb dX9_factorOver_32 (by decide) (fun c_1 => ?_) (fun c_1 => ?_)
      · have hf := (if_pos c_1).symm.trans hf
        exact J41 Mh x2 hf _ _ hP hS _ (lv_sub hl [2] rfl)
      · have hf := (if_neg c_1).symm.trans hf
        refine lv_iinc (v := (x2 + 1)) (lv' := [(2, .int (x2 + 1)), (0, .ref (q 14)), (1, .int x1)]) hx hb dX9_factorOver_35 hl (k := 2) rfl rfl (by decide) rfl (fun ls hl => ?_)
        refine lv_goto (tgt := 24) hx hb dX9_factorOver_38 (by decide) ?_
        exact ih24 Mh x1 (x2 + 1) hf _ _ hP hS _ (lv_sub hl [1, 2, 0] rfl)
  have J14 : ∀ (Mh : Int32) (x1 : Int32) (y1 : Int32), fX9_factorOver_J14 N Mn Mm Mt Mh x1 y1 = some (r0, Mh9) → ∀ (H : Heap) (locs : List Loc), va_P D vwCl (w_14_15 q cI cJ cD Mh Mn Mm Mt) H → va_S (gA q [14, 15]) s.heap H locs → ∀ ls : Array Slot, lv_has ls 3 [(0, .ref (q 14)), (1, .int x1)] → W p l e (headSpec wsX9_factorOver rX9_factorOver).room s m ([.ref (q 14), .int p1] : List Value).toArray below meth c H locs 0 0 (MQ below (gQ D (some (.int r0)) (w_14_15 q cI cJ cD Mh9 Mn Mm Mt) (gA q [14, 15])) ([.ref (q 14), .int p1] : List Value).toArray s 0 0 (gA q [14, 15])) (F0 m 14 ls [.int y1, .ref (q 14)]) := by
    intro Mh x1 y1 hf H locs hP hS ls hl
    unfold fX9_factorOver_J14 at hf
    obtain ⟨⟨r14, Mh14⟩, hc, hf⟩ := bn_some hf
    try dsimp only at hf
    refine g_call0 (ws' := (w_14_15 q cI cJ cD Mh14 Mn Mm Mt)) (st1 := [.int r14]) hq [14, 15] [14] [.inl 0, .inr 1] (va_runV (As := [.int y1]) (rest := []) ⟨hx, hb, hml, hown, hts⟩ (kX9_goesWell l D cI cJ cD q hq N Mh Mn Mm y1 r14 Mh14 hc) (cwV 1 hts gX9_factorOver_X9_goesWell rfl rfl rfl (by decide +kernel) ⟨(Nat.le_of_ble_eq_true rfl), (Nat.le_of_ble_eq_true rfl)⟩) ⟨gP_blind, va_recv hE.1 hP (ci := 7) (q0 := 0) rfl rfl, fun U hU hW => ⟨rfl, by rw [hU]; exact hP.sub (ws' := (w_14 q cI cJ cD Mh Mn Mm)) [0] rfl, gEv.warm hW hE⟩⟩ rfl rfl hl.1 rfl (lv_room (Nat.le_of_ble_eq_true rfl)) dX9_factorOver_14 ⟨Nat.zero_le _, Nat.zero_le _⟩) hP hS (gSub rfl) rfl rfl rfl rfl rfl (fun H locs hP hS => ?_)
    refine lv_if_ne (tgt := 22) hx hb dX9_factorOver_17 (by decide) (fun c_2 => ?_) (fun c_2 => ?_)
    · have hf := (if_neg c_2).symm.trans hf
      refine lv_iconst (v := (0 : Int32)) hx hb dX9_factorOver_22 (by decide) ?_
      refine lv_istore_n (lv' := [(2, .int (0 : Int32)), (0, .ref (q 14)), (1, .int x1)]) hx hb dX9_factorOver_23 rfl hl (by decide) rfl (fun ls hl => ?_)
      exact K24 N Mh14 x1 (0 : Int32) hf _ _ hP hS _ (lv_sub hl [1, 2, 0] rfl)
    · have hf := (if_pos c_2).symm.trans hf
      refine lv_iconst (v := (0 : Int32)) hx hb dX9_factorOver_20 (by decide) ?_
      cases hf
      exact W.iret hx hb hr (fun t ht hW => ⟨⟨rfl, by rw [ht]; exact hP⟩, hS.F ht⟩) hS.2.2 dX9_factorOver_21
  unfold fX9_factorOver at hf
  refine lv_aload_n hx hb dX9_factorOver_0 rfl (lv_at hl 0 rfl) ?_
  refine lv_aload_n hx hb dX9_factorOver_1 rfl (lv_at hl 0 rfl) ?_
  refine lv_iload_n hx hb dX9_factorOver_2 rfl (lv_at hl 1 rfl) ?_
  obtain ⟨r3, hc, hf⟩ := bn_some hf
  try dsimp only at hf
  refine g_call0 (ws' := (w_14_15 q cI cJ cD Mh Mn Mm Mt)) (st1 := [.int r3, .ref (q 14)]) hq [14, 15] [14] [.inl 0, .inr 1] (va_runV (As := [.int p1]) (rest := [.ref (q 14)]) ⟨hx, hb, hml, hown, hts⟩ (kX9_isPlace l D cI cJ cD q hq N Mh Mn Mm p1 r3 hc) (cwV 1 hts gX9_factorOver_X9_isPlace rfl rfl rfl (by decide +kernel) ⟨(Nat.le_of_ble_eq_true rfl), (Nat.le_of_ble_eq_true rfl)⟩) ⟨gP_blind, va_recv hE.1 hP (ci := 7) (q0 := 0) rfl rfl, fun U hU hW => ⟨rfl, by rw [hU]; exact hP.sub (ws' := (w_14 q cI cJ cD Mh Mn Mm)) [0] rfl, gEv.warm hW hE⟩⟩ rfl rfl hl.1 rfl (lv_room (Nat.le_of_ble_eq_true rfl)) dX9_factorOver_3 ⟨Nat.zero_le _, Nat.zero_le _⟩) hP hS (gSub rfl) rfl rfl rfl rfl rfl (fun H locs hP hS => ?_)
  refine lv_if_eq (tgt := 13) hx hb dX9_factorOver_6 (by decide) (fun c_3 => ?_) (fun c_3 => ?_)
  · have hf := (if_pos c_3).symm.trans hf
    refine lv_iconst (v := (1 : Int32)) hx hb dX9_factorOver_13 (by decide) ?_
    exact J14 Mh p1 (1 : Int32) hf _ _ hP hS _ (lv_sub hl [0, 1] rfl)
  · have hf := (if_neg c_3).symm.trans hf
    refine lv_iconst (v := (0 : Int32)) hx hb dX9_factorOver_9 (by decide) ?_
    refine lv_goto (tgt := 14) hx hb dX9_factorOver_10 (by decide) ?_
    exact J14 Mh p1 (0 : Int32) hf _ _ hP hS _ (lv_sub hl [0, 1] rfl)
set_option maxHeartbeats 4000000 in
set_option maxRecDepth 100000 in
theorem kX9_longestLyndon (l : Launch) (D : va_G) (cI cJ cD : ClassId) (q : Nat → Nat) (hq : gInj q) (N : Nat) (Mh : Int32) (Mn : Int32) (Mm : Int32) (Mt : (Nat → Int32)) (p1 : Int32) (p2 : Int32) (r0 : Int32) (Mh9 : Int32) (hf : fX9_longestLyndon N Mh Mn Mm Mt p1 p2 = some (r0, Mh9)) : Met l yX9_longestLyndon wsX9_longestLyndon rX9_longestLyndon (gP D cI cJ cD [.ref (q 14), .int p1, .int p2] (w_14_15 q cI cJ cD Mh Mn Mm Mt)) (gQ D (some (.int r0)) (w_14_15 q cI cJ cD Mh9 Mn Mm Mt) (gA q [14, 15])) 0 0 (gA q [14, 15]) := by
  refine Met.ofW (cc := cX9_longestLyndon) (maxL := 3) (ret := (some .int)) (by decide +kernel) rfl ?_
  intro p e s m args below meth c s₁ B hml hv
  obtain ⟨rfl, hP, hE⟩ := hv
  have hx := B.exec
  have hb := B.bytes
  have hr := B.returns
  have hts := atoms_spec (ws := wsX9_longestLyndon) B.pre
  have hown : s.vm.findClass RX9 = some m.cls := findClass_of_methodNamed B.named
  have hlocks := B.notSynchronized
  have hS : va_S (gA q [14, 15]) s.heap s.heap [] := va_S.rf
  have hl := lv_entry ([.ref (q 14), .int p1, .int p2]) (n := 3) (Nat.le_of_ble_eq_true rfl)
  rw [lg_entry_eq]
  generalize (lg_sl ([.ref (q 14), .int p1, .int p2]) ++ List.replicate (3 - (lg_sl ([.ref (q 14), .int p1, .int p2])).length) Slot.unset).toArray = ls at hl ⊢
  have hl : lv_has ls 3 [(0, .ref (q 14)), (1, .int p1), (2, .int p2)] := hl
  have J30 : ∀ (Mh : Int32) (y0 : Int32), fX9_longestLyndon_J30 N Mn Mm Mt Mh y0 = some (r0, Mh9) → ∀ (H : Heap) (locs : List Loc), va_P D vwCl (w_14_15 q cI cJ cD Mh Mn Mm Mt) H → va_S (gA q [14, 15]) s.heap H locs → ∀ ls : Array Slot, lv_has ls 3 [] → W p l e (headSpec wsX9_longestLyndon rX9_longestLyndon).room s m ([.ref (q 14), .int p1, .int p2] : List Value).toArray below meth c H locs 0 0 (MQ below (gQ D (some (.int r0)) (w_14_15 q cI cJ cD Mh9 Mn Mm Mt) (gA q [14, 15])) ([.ref (q 14), .int p1, .int p2] : List Value).toArray s 0 0 (gA q [14, 15])) (F0 m 30 ls [.int y0]) := by
    intro Mh y0 hf H locs hP hS ls hl
    unfold fX9_longestLyndon_J30 at hf
    cases hf
    exact W.iret hx hb hr (fun t ht hW => ⟨⟨rfl, by rw [ht]; exact hP⟩, hS.F ht⟩) hS.2.2 dX9_longestLyndon_30
  have J14 : ∀ (Mh : Int32) (x1 : Int32) (x2 : Int32) (y1 : Int32), fX9_longestLyndon_J14 N Mn Mm Mt Mh x1 x2 y1 = some (r0, Mh9) → ∀ (H : Heap) (locs : List Loc), va_P D vwCl (w_14_15 q cI cJ cD Mh Mn Mm Mt) H → va_S (gA q [14, 15]) s.heap H locs → ∀ ls : Array Slot, lv_has ls 3 [(0, .ref (q 14)), (1, .int x1), (2, .int x2)] → W p l e (headSpec wsX9_longestLyndon rX9_longestLyndon).room s m ([.ref (q 14), .int p1, .int p2] : List Value).toArray below meth c H locs 0 0 (MQ below (gQ D (some (.int r0)) (w_14_15 q cI cJ cD Mh9 Mn Mm Mt) (gA q [14, 15])) ([.ref (q 14), .int p1, .int p2] : List Value).toArray s 0 0 (gA q [14, 15])) (F0 m 14 ls [.int y1, .ref (q 14)]) := by
    intro Mh x1 x2 y1 hf H locs hP hS ls hl
    unfold fX9_longestLyndon_J14 at hf
    obtain ⟨⟨r14, Mh14⟩, hc, hf⟩ := bn_some hf
    try dsimp only at hf
    refine g_call0 (ws' := (w_14_15 q cI cJ cD Mh14 Mn Mm Mt)) (st1 := [.int r14]) hq [14, 15] [14] [.inl 0, .inr 1] (va_runV (As := [.int y1]) (rest := []) ⟨hx, hb, hml, hown, hts⟩ (kX9_goesWell l D cI cJ cD q hq N Mh Mn Mm y1 r14 Mh14 hc) (cwV 1 hts gX9_longestLyndon_X9_goesWell rfl rfl rfl (by decide +kernel) ⟨(Nat.le_of_ble_eq_true rfl), (Nat.le_of_ble_eq_true rfl)⟩) ⟨gP_blind, va_recv hE.1 hP (ci := 7) (q0 := 0) rfl rfl, fun U hU hW => ⟨rfl, by rw [hU]; exact hP.sub (ws' := (w_14 q cI cJ cD Mh Mn Mm)) [0] rfl, gEv.warm hW hE⟩⟩ rfl rfl hl.1 rfl (lv_room (Nat.le_of_ble_eq_true rfl)) dX9_longestLyndon_14 ⟨Nat.zero_le _, Nat.zero_le _⟩) hP hS (gSub rfl) rfl rfl rfl rfl rfl (fun H locs hP hS => ?_)
    refine lv_if_eq (tgt := 29) hx hb dX9_longestLyndon_17 (by decide) (fun c_1 => ?_) (fun c_1 => ?_)
    · have hf := (if_pos c_1).symm.trans hf
      refine lv_iconst (v := (0 : Int32)) hx hb dX9_longestLyndon_29 (by decide) ?_
      exact J30 Mh14 (0 : Int32) hf _ _ hP hS _ (lv_sub hl [] rfl)
    · have hf := (if_neg c_1).symm.trans hf
      refine lv_aload_n hx hb dX9_longestLyndon_20 rfl (lv_at hl 0 rfl) ?_
      refine lv_iload_n hx hb dX9_longestLyndon_21 rfl (lv_at hl 1 rfl) ?_
      refine lv_iload_n hx hb dX9_longestLyndon_22 rfl (lv_at hl 2 rfl) ?_
      obtain ⟨r23, hc, hf⟩ := bn_some hf
      try dsimp only at hf
      refine g_call0 (ws' := (w_14_15 q cI cJ cD Mh14 Mn Mm Mt)) (st1 := [.int r23]) hq [14, 15] [14, 15] [.inl 0, .inl 1] (va_runV (As := [.int x1, .int x2]) (rest := []) ⟨hx, hb, hml, hown, hts⟩ (kX9_longest l D cI cJ cD q hq N Mh14 Mn Mm Mt x1 x2 r23 hc) (cwV 2 hts gX9_longestLyndon_X9_longest rfl rfl rfl (by decide +kernel) ⟨(Nat.le_of_ble_eq_true rfl), (Nat.le_of_ble_eq_true rfl)⟩) ⟨gP_blind, va_recv hE.1 hP (ci := 7) (q0 := 0) rfl rfl, fun U hU hW => ⟨rfl, by rw [hU]; exact hP.sub (ws' := (w_14_15 q cI cJ cD Mh14 Mn Mm Mt)) [0, 1] rfl, gEv.warm hW hE⟩⟩ rfl rfl hl.1 rfl (lv_room (Nat.le_of_ble_eq_true rfl)) dX9_longestLyndon_23 ⟨Nat.zero_le _, Nat.zero_le _⟩) hP hS (gSub rfl) rfl rfl rfl rfl rfl (fun H locs hP hS => ?_)
      refine lv_goto (tgt := 30) hx hb dX9_longestLyndon_26 (by decide) ?_
      exact J30 Mh14 r23 hf _ _ hP hS _ (lv_sub hl [] rfl)
  unfold fX9_longestLyndon at hf
  refine lv_aload_n hx hb dX9_longestLyndon_0 rfl (lv_at hl 0 rfl) ?_
  refine lv_aload_n hx hb dX9_longestLyndon_1 rfl (lv_at hl 0 rfl) ?_
  refine lv_iload_n hx hb dX9_longestLyndon_2 rfl (lv_at hl 1 rfl) ?_
  obtain ⟨r3, hc, hf⟩ := bn_some hf
  try dsimp only at hf
  refine g_call0 (ws' := (w_14_15 q cI cJ cD Mh Mn Mm Mt)) (st1 := [.int r3, .ref (q 14)]) hq [14, 15] [14] [.inl 0, .inr 1] (va_runV (As := [.int p1]) (rest := [.ref (q 14)]) ⟨hx, hb, hml, hown, hts⟩ (kX9_isPlace l D cI cJ cD q hq N Mh Mn Mm p1 r3 hc) (cwV 1 hts gX9_longestLyndon_X9_isPlace rfl rfl rfl (by decide +kernel) ⟨(Nat.le_of_ble_eq_true rfl), (Nat.le_of_ble_eq_true rfl)⟩) ⟨gP_blind, va_recv hE.1 hP (ci := 7) (q0 := 0) rfl rfl, fun U hU hW => ⟨rfl, by rw [hU]; exact hP.sub (ws' := (w_14 q cI cJ cD Mh Mn Mm)) [0] rfl, gEv.warm hW hE⟩⟩ rfl rfl hl.1 rfl (lv_room (Nat.le_of_ble_eq_true rfl)) dX9_longestLyndon_3 ⟨Nat.zero_le _, Nat.zero_le _⟩) hP hS (gSub rfl) rfl rfl rfl rfl rfl (fun H locs hP hS => ?_)
  refine lv_if_eq (tgt := 13) hx hb dX9_longestLyndon_6 (by decide) (fun c_2 => ?_) (fun c_2 => ?_)
  · have hf := (if_pos c_2).symm.trans hf
    refine lv_iconst (v := (1 : Int32)) hx hb dX9_longestLyndon_13 (by decide) ?_
    exact J14 Mh p1 p2 (1 : Int32) hf _ _ hP hS _ (lv_sub hl [0, 1, 2] rfl)
  · have hf := (if_neg c_2).symm.trans hf
    refine lv_iconst (v := (0 : Int32)) hx hb dX9_longestLyndon_9 (by decide) ?_
    refine lv_goto (tgt := 14) hx hb dX9_longestLyndon_10 (by decide) ?_
    exact J14 Mh p1 p2 (0 : Int32) hf _ _ hP hS _ (lv_sub hl [0, 1, 2] rfl)
set_option maxHeartbeats 4000000 in
set_option maxRecDepth 100000 in
theorem kX9_standardFactor (l : Launch) (D : va_G) (cI cJ cD : ClassId) (q : Nat → Nat) (hq : gInj q) (N : Nat) (Mh : Int32) (Mn : Int32) (Mm : Int32) (Mt : (Nat → Int32)) (p1 : Int32) (p2 : Int32) (r0 : Int32) (Mh9 : Int32) (hf : fX9_standardFactor N Mh Mn Mm Mt p1 p2 = some (r0, Mh9)) : Met l yX9_standardFactor wsX9_standardFactor rX9_standardFactor (gP D cI cJ cD [.ref (q 14), .int p1, .int p2] (w_14_15 q cI cJ cD Mh Mn Mm Mt)) (gQ D (some (.int r0)) (w_14_15 q cI cJ cD Mh9 Mn Mm Mt) (gA q [14, 15])) 0 0 (gA q [14, 15]) := by
  refine Met.ofW (cc := cX9_standardFactor) (maxL := 4) (ret := (some .int)) (by decide +kernel) rfl ?_
  intro p e s m args below meth c s₁ B hml hv
  obtain ⟨rfl, hP, hE⟩ := hv
  have hx := B.exec
  have hb := B.bytes
  have hr := B.returns
  have hts := atoms_spec (ws := wsX9_standardFactor) B.pre
  have hown : s.vm.findClass RX9 = some m.cls := findClass_of_methodNamed B.named
  have hlocks := B.notSynchronized
  have hS : va_S (gA q [14, 15]) s.heap s.heap [] := va_S.rf
  have hl := lv_entry ([.ref (q 14), .int p1, .int p2]) (n := 4) (Nat.le_of_ble_eq_true rfl)
  rw [lg_entry_eq]
  generalize (lg_sl ([.ref (q 14), .int p1, .int p2]) ++ List.replicate (4 - (lg_sl ([.ref (q 14), .int p1, .int p2])).length) Slot.unset).toArray = ls at hl ⊢
  have hl : lv_has ls 4 [(0, .ref (q 14)), (1, .int p1), (2, .int p2)] := hl
  have J64 : ∀ (Mh : Int32) (x3 : Int32), fX9_standardFactor_J64 N Mn Mm Mt Mh x3 = some (r0, Mh9) → ∀ (H : Heap) (locs : List Loc), va_P D vwCl (w_14_15 q cI cJ cD Mh Mn Mm Mt) H → va_S (gA q [14, 15]) s.heap H locs → ∀ ls : Array Slot, lv_has ls 4 [(3, .int x3)] → W p l e (headSpec wsX9_standardFactor rX9_standardFactor).room s m ([.ref (q 14), .int p1, .int p2] : List Value).toArray below meth c H locs 0 0 (MQ below (gQ D (some (.int r0)) (w_14_15 q cI cJ cD Mh9 Mn Mm Mt) (gA q [14, 15])) ([.ref (q 14), .int p1, .int p2] : List Value).toArray s 0 0 (gA q [14, 15])) (F0 m 64 ls []) := by
    intro Mh x3 hf H locs hP hS ls hl
    unfold fX9_standardFactor_J64 at hf
    refine lv_iload_n hx hb dX9_standardFactor_64 rfl (lv_at hl 0 rfl) ?_
    cases hf
    exact W.iret hx hb hr (fun t ht hW => ⟨⟨rfl, by rw [ht]; exact hP⟩, hS.F ht⟩) hS.2.2 dX9_standardFactor_65
  have K48 : ∀ (n48 : Nat) (Mh : Int32) (x2 : Int32) (x3 : Int32), fX9_standardFactor_H48 N Mn Mm Mt n48 Mh x2 x3 = some (r0, Mh9) → ∀ (H : Heap) (locs : List Loc), va_P D vwCl (w_14_15 q cI cJ cD Mh Mn Mm Mt) H → va_S (gA q [14, 15]) s.heap H locs → ∀ ls : Array Slot, lv_has ls 4 [(0, .ref (q 14)), (2, .int x2), (3, .int x3)] → W p l e (headSpec wsX9_standardFactor rX9_standardFactor).room s m ([.ref (q 14), .int p1, .int p2] : List Value).toArray below meth c H locs 0 0 (MQ below (gQ D (some (.int r0)) (w_14_15 q cI cJ cD Mh9 Mn Mm Mt) (gA q [14, 15])) ([.ref (q 14), .int p1, .int p2] : List Value).toArray s 0 0 (gA q [14, 15])) (F0 m 48 ls []) := by
    intro n48
    induction n48 with
    | zero =>
      intro Mh x2 x3 hf
      exact nomatch (show (none : Option (Int32 × Int32)) = some (r0, Mh9) from hf)
    | succ n48 ih48 =>
      intro Mh x2 x3 hf H locs hP hS ls hl
      have hf : fX9_standardFactor_B48 N Mn Mm Mt (fX9_standardFactor_H48 N Mn Mm Mt n48) Mh x2 x3 = some (r0, Mh9) := hf
      unfold fX9_standardFactor_B48 at hf
      refine lv_aload_n hx hb dX9_standardFactor_48 rfl (lv_at hl 0 rfl) ?_
      refine lv_iload_n hx hb dX9_standardFactor_49 rfl (lv_at hl 2 rfl) ?_
      refine lv_iload_n hx hb dX9_standardFactor_50 rfl (lv_at hl 1 rfl) ?_
      refine lv_iconst (v := (0 : Int32)) hx hb dX9_standardFactor_51 (by decide) ?_
      obtain ⟨r52, hc, hf⟩ := bn_some hf
      try dsimp only at hf
      refine g_call0 (ws' := (w_14_15 q cI cJ cD Mh Mn Mm Mt)) (st1 := [.int r52]) hq [14, 15] [14, 15] [.inl 0, .inl 1] (va_runV (As := [.int x3, .int x2, .int (0 : Int32)]) (rest := []) ⟨hx, hb, hml, hown, hts⟩ (kX9_lyndonPart l D cI cJ cD q hq N Mh Mn Mm Mt x3 x2 (0 : Int32) r52 hc) (cwV 3 hts gX9_standardFactor_X9_lyndonPart rfl rfl rfl (by decide +kernel) ⟨(Nat.le_of_ble_eq_true rfl), (Nat.le_of_ble_eq_true rfl)⟩) ⟨gP_blind, va_recv hE.1 hP (ci := 7) (q0 := 0) rfl rfl, fun U hU hW => ⟨rfl, by rw [hU]; exact hP.sub (ws' := (w_14_15 q cI cJ cD Mh Mn Mm Mt)) [0, 1] rfl, gEv.warm hW hE⟩⟩ rfl rfl hl.1 rfl (lv_room (Nat.le_of_ble_eq_true rfl)) dX9_standardFactor_52 ⟨Nat.zero_le _, Nat.zero_le _⟩) hP hS (gSub rfl) rfl rfl rfl rfl rfl (fun H locs hP hS => ?_)
      refine lv_if_ne (tgt := 64) hx hb dX9_standardFactor_55 (by decide) (fun c_1 => ?_) (fun c_1 => ?_)
      · have hf := (if_neg c_1).symm.trans hf
        exact J64 Mh x3 hf _ _ hP hS _ (lv_sub hl [2] rfl)
      · have hf := (if_pos c_1).symm.trans hf
        refine lv_iinc (v := (x3 + 1)) (lv' := [(3, .int (x3 + 1)), (0, .ref (q 14)), (2, .int x2)]) hx hb dX9_standardFactor_58 hl (k := 2) rfl rfl (by decide) rfl (fun ls hl => ?_)
        refine lv_goto (tgt := 48) hx hb dX9_standardFactor_61 (by decide) ?_
        exact ih48 Mh x2 (x3 + 1) hf _ _ hP hS _ (lv_sub hl [1, 2, 0] rfl)
  have J36 : ∀ (Mh : Int32) (x1 : Int32) (x2 : Int32) (y1 : Int32), fX9_standardFactor_J36 N Mn Mm Mt Mh x1 x2 y1 = some (r0, Mh9) → ∀ (H : Heap) (locs : List Loc), va_P D vwCl (w_14_15 q cI cJ cD Mh Mn Mm Mt) H → va_S (gA q [14, 15]) s.heap H locs → ∀ ls : Array Slot, lv_has ls 4 [(0, .ref (q 14)), (1, .int x1), (2, .int x2)] → W p l e (headSpec wsX9_standardFactor rX9_standardFactor).room s m ([.ref (q 14), .int p1, .int p2] : List Value).toArray below meth c H locs 0 0 (MQ below (gQ D (some (.int r0)) (w_14_15 q cI cJ cD Mh9 Mn Mm Mt) (gA q [14, 15])) ([.ref (q 14), .int p1, .int p2] : List Value).toArray s 0 0 (gA q [14, 15])) (F0 m 36 ls [.int y1, .ref (q 14)]) := by
    intro Mh x1 x2 y1 hf H locs hP hS ls hl
    unfold fX9_standardFactor_J36 at hf
    obtain ⟨⟨r36, Mh36⟩, hc, hf⟩ := bn_some hf
    try dsimp only at hf
    refine g_call0 (ws' := (w_14_15 q cI cJ cD Mh36 Mn Mm Mt)) (st1 := [.int r36]) hq [14, 15] [14] [.inl 0, .inr 1] (va_runV (As := [.int y1]) (rest := []) ⟨hx, hb, hml, hown, hts⟩ (kX9_goesWell l D cI cJ cD q hq N Mh Mn Mm y1 r36 Mh36 hc) (cwV 1 hts gX9_standardFactor_X9_goesWell rfl rfl rfl (by decide +kernel) ⟨(Nat.le_of_ble_eq_true rfl), (Nat.le_of_ble_eq_true rfl)⟩) ⟨gP_blind, va_recv hE.1 hP (ci := 7) (q0 := 0) rfl rfl, fun U hU hW => ⟨rfl, by rw [hU]; exact hP.sub (ws' := (w_14 q cI cJ cD Mh Mn Mm)) [0] rfl, gEv.warm hW hE⟩⟩ rfl rfl hl.1 rfl (lv_room (Nat.le_of_ble_eq_true rfl)) dX9_standardFactor_36 ⟨Nat.zero_le _, Nat.zero_le _⟩) hP hS (gSub rfl) rfl rfl rfl rfl rfl (fun H locs hP hS => ?_)
    refine lv_if_ne (tgt := 44) hx hb dX9_standardFactor_39 (by decide) (fun c_2 => ?_) (fun c_2 => ?_)
    · have hf := (if_neg c_2).symm.trans hf
      refine lv_iload_n hx hb dX9_standardFactor_44 rfl (lv_at hl 1 rfl) ?_
      refine lv_iconst (v := (1 : Int32)) hx hb dX9_standardFactor_45 (by decide) ?_
      refine lv_iadd hx hb dX9_standardFactor_46 ?_
      refine lv_istore_n (lv' := [(3, .int (x1 + (1 : Int32))), (0, .ref (q 14)), (1, .int x1), (2, .int x2)]) hx hb dX9_standardFactor_47 rfl hl (by decide) rfl (fun ls hl => ?_)
      exact K48 N Mh36 x2 (x1 + (1 : Int32)) hf _ _ hP hS _ (lv_sub hl [1, 3, 0] rfl)
    · have hf := (if_pos c_2).symm.trans hf
      refine lv_iconst (v := (0 : Int32)) hx hb dX9_standardFactor_42 (by decide) ?_
      cases hf
      exact W.iret hx hb hr (fun t ht hW => ⟨⟨rfl, by rw [ht]; exact hP⟩, hS.F ht⟩) hS.2.2 dX9_standardFactor_43
  have J31 : ∀ (Mh : Int32) (x1 : Int32) (x2 : Int32), fX9_standardFactor_J31 N Mn Mm Mt Mh x1 x2 = some (r0, Mh9) → ∀ (H : Heap) (locs : List Loc), va_P D vwCl (w_14_15 q cI cJ cD Mh Mn Mm Mt) H → va_S (gA q [14, 15]) s.heap H locs → ∀ ls : Array Slot, lv_has ls 4 [(0, .ref (q 14)), (1, .int x1), (2, .int x2)] → W p l e (headSpec wsX9_standardFactor rX9_standardFactor).room s m ([.ref (q 14), .int p1, .int p2] : List Value).toArray below meth c H locs 0 0 (MQ below (gQ D (some (.int r0)) (w_14_15 q cI cJ cD Mh9 Mn Mm Mt) (gA q [14, 15])) ([.ref (q 14), .int p1, .int p2] : List Value).toArray s 0 0 (gA q [14, 15])) (F0 m 31 ls [.ref (q 14)]) := by
    intro Mh x1 x2 hf H locs hP hS ls hl
    unfold fX9_standardFactor_J31 at hf
    refine lv_iconst (v := (2 : Int32)) hx hb dX9_standardFactor_31 (by decide) ?_
    refine lv_goto (tgt := 36) hx hb dX9_standardFactor_32 (by decide) ?_
    exact J36 Mh x1 x2 (2 : Int32) hf _ _ hP hS _ (lv_sub hl [0, 1, 2] rfl)
  unfold fX9_standardFactor at hf
  refine lv_aload_n hx hb dX9_standardFactor_0 rfl (lv_at hl 0 rfl) ?_
  refine lv_aload_n hx hb dX9_standardFactor_1 rfl (lv_at hl 0 rfl) ?_
  refine lv_iload_n hx hb dX9_standardFactor_2 rfl (lv_at hl 1 rfl) ?_
  refine lv_iload_n hx hb dX9_standardFactor_3 rfl (lv_at hl 2 rfl) ?_
  obtain ⟨r4, hc, hf⟩ := bn_some hf
  try dsimp only at hf
  refine g_call0 (ws' := (w_14_15 q cI cJ cD Mh Mn Mm Mt)) (st1 := [.int r4, .ref (q 14)]) hq [14, 15] [14] [.inl 0, .inr 1] (va_runV (As := [.int p1, .int p2]) (rest := [.ref (q 14)]) ⟨hx, hb, hml, hown, hts⟩ (kX9_isPart l D cI cJ cD q hq N Mh Mn Mm p1 p2 r4 hc) (cwV 2 hts gX9_standardFactor_X9_isPart rfl rfl rfl (by decide +kernel) ⟨(Nat.le_of_ble_eq_true rfl), (Nat.le_of_ble_eq_true rfl)⟩) ⟨gP_blind, va_recv hE.1 hP (ci := 7) (q0 := 0) rfl rfl, fun U hU hW => ⟨rfl, by rw [hU]; exact hP.sub (ws' := (w_14 q cI cJ cD Mh Mn Mm)) [0] rfl, gEv.warm hW hE⟩⟩ rfl rfl hl.1 rfl (lv_room (Nat.le_of_ble_eq_true rfl)) dX9_standardFactor_4 ⟨Nat.zero_le _, Nat.zero_le _⟩) hP hS (gSub rfl) rfl rfl rfl rfl rfl (fun H locs hP hS => ?_)
  refine lv_if_ne (tgt := 14) hx hb dX9_standardFactor_7 (by decide) (fun c_3 => ?_) (fun c_3 => ?_)
  · have hf := (if_neg c_3).symm.trans hf
    refine lv_iload_n hx hb dX9_standardFactor_14 rfl (lv_at hl 2 rfl) ?_
    refine lv_iload_n hx hb dX9_standardFactor_15 rfl (lv_at hl 1 rfl) ?_
    refine lv_isub hx hb dX9_standardFactor_16 ?_
    refine lv_iconst (v := (1 : Int32)) hx hb dX9_standardFactor_17 (by decide) ?_
    refine lv_icmp_eq (tgt := 31) hx hb dX9_standardFactor_18 (by decide) (fun c_4 => ?_) (fun c_4 => ?_)
    · have hf := (if_pos c_4).symm.trans hf
      exact J31 Mh p1 p2 hf _ _ hP hS _ (lv_sub hl [0, 1, 2] rfl)
    · have hf := (if_neg c_4).symm.trans hf
      refine lv_aload_n hx hb dX9_standardFactor_21 rfl (lv_at hl 0 rfl) ?_
      refine lv_iload_n hx hb dX9_standardFactor_22 rfl (lv_at hl 1 rfl) ?_
      refine lv_iload_n hx hb dX9_standardFactor_23 rfl (lv_at hl 2 rfl) ?_
      refine lv_iconst (v := (0 : Int32)) hx hb dX9_standardFactor_24 (by decide) ?_
      obtain ⟨r25, hc, hf⟩ := bn_some hf
      try dsimp only at hf
      refine g_call0 (ws' := (w_14_15 q cI cJ cD Mh Mn Mm Mt)) (st1 := [.int r25, .ref (q 14)]) hq [14, 15] [14, 15] [.inl 0, .inl 1] (va_runV (As := [.int p1, .int p2, .int (0 : Int32)]) (rest := [.ref (q 14)]) ⟨hx, hb, hml, hown, hts⟩ (kX9_lyndonPart l D cI cJ cD q hq N Mh Mn Mm Mt p1 p2 (0 : Int32) r25 hc) (cwV 3 hts gX9_standardFactor_X9_lyndonPart rfl rfl rfl (by decide +kernel) ⟨(Nat.le_of_ble_eq_true rfl), (Nat.le_of_ble_eq_true rfl)⟩) ⟨gP_blind, va_recv hE.1 hP (ci := 7) (q0 := 0) rfl rfl, fun U hU hW => ⟨rfl, by rw [hU]; exact hP.sub (ws' := (w_14_15 q cI cJ cD Mh Mn Mm Mt)) [0, 1] rfl, gEv.warm hW hE⟩⟩ rfl rfl hl.1 rfl (lv_room (Nat.le_of_ble_eq_true rfl)) dX9_standardFactor_25 ⟨Nat.zero_le _, Nat.zero_le _⟩) hP hS (gSub rfl) rfl rfl rfl rfl rfl (fun H locs hP hS => ?_)
      refine lv_if_ne (tgt := 35) hx hb dX9_standardFactor_28 (by decide) (fun c_5 => ?_) (fun c_5 => ?_)
      · have hf := (if_neg c_5).symm.trans hf
        refine lv_iconst (v := (0 : Int32)) hx hb dX9_standardFactor_35 (by decide) ?_
        exact J36 Mh p1 p2 (0 : Int32) hf _ _ hP hS _ (lv_sub hl [0, 1, 2] rfl)
      · have hf := (if_pos c_5).symm.trans hf
        exact J31 Mh p1 p2 hf _ _ hP hS _ (lv_sub hl [0, 1, 2] rfl)
  · have hf := (if_pos c_3).symm.trans hf
    refine lv_iconst (v := (1 : Int32)) hx hb dX9_standardFactor_10 (by decide) ?_
    refine lv_goto (tgt := 36) hx hb dX9_standardFactor_11 (by decide) ?_
    exact J36 Mh p1 p2 (1 : Int32) hf _ _ hP hS _ (lv_sub hl [0, 1, 2] rfl)
set_option maxHeartbeats 4000000 in
set_option maxRecDepth 100000 in
theorem kX9_turned (l : Launch) (D : va_G) (cI cJ cD : ClassId) (q : Nat → Nat) (hq : gInj q) (N : Nat) (Mh : Int32) (Mn : Int32) (Mm : Int32) (Mt : (Nat → Int32)) (p1 : Int32) (p2 : Int32) (p3 : Int32) (p4 : Int32) (r0 : Int32) (hf : fX9_turned N Mh Mn Mm Mt p1 p2 p3 p4 = some r0) : Met l yX9_turned wsX9_turned rX9_turned (gP D cI cJ cD [.ref (q 14), .int p1, .int p2, .int p3, .int p4] (w_14_15 q cI cJ cD Mh Mn Mm Mt)) (gQ D (some (.int r0)) (w_14_15 q cI cJ cD Mh Mn Mm Mt) (gA q [14, 15])) 0 0 (gA q [14, 15]) := by
  refine Met.ofW (cc := cX9_turned) (maxL := 7) (ret := (some .int)) (by decide +kernel) rfl ?_
  intro p e s m args below meth c s₁ B hml hv
  obtain ⟨rfl, hP, hE⟩ := hv
  have hx := B.exec
  have hb := B.bytes
  have hr := B.returns
  have hts := atoms_spec (ws := wsX9_turned) B.pre
  have hown : s.vm.findClass RX9 = some m.cls := findClass_of_methodNamed B.named
  have hlocks := B.notSynchronized
  have hS : va_S (gA q [14, 15]) s.heap s.heap [] := va_S.rf
  have hl := lv_entry ([.ref (q 14), .int p1, .int p2, .int p3, .int p4]) (n := 7) (Nat.le_of_ble_eq_true rfl)
  rw [lg_entry_eq]
  generalize (lg_sl ([.ref (q 14), .int p1, .int p2, .int p3, .int p4]) ++ List.replicate (7 - (lg_sl ([.ref (q 14), .int p1, .int p2, .int p3, .int p4])).length) Slot.unset).toArray = ls at hl ⊢
  have hl : lv_has ls 7 [(0, .ref (q 14)), (1, .int p1), (2, .int p2), (3, .int p3), (4, .int p4)] := hl
  have hk7 := hts (.fieldLink RX9 7 "LyndonTextModel" "text" "[I") (by decide +kernel)
  have huX9 : ∀ w ∈ u_ws RX9 TX9 11, w ∈ wsX9_turned := by decide +kernel
  have J94 : ∀ (y0 : Int32), fX9_turned_J94 N Mh Mn Mm Mt y0 = some r0 → ∀ (H : Heap) (locs : List Loc), va_P D vwCl (w_14_15 q cI cJ cD Mh Mn Mm Mt) H → va_S (gA q [14, 15]) s.heap H locs → ∀ ls : Array Slot, lv_has ls 7 [] → W p l e (headSpec wsX9_turned rX9_turned).room s m ([.ref (q 14), .int p1, .int p2, .int p3, .int p4] : List Value).toArray below meth c H locs 0 0 (MQ below (gQ D (some (.int r0)) (w_14_15 q cI cJ cD Mh Mn Mm Mt) (gA q [14, 15])) ([.ref (q 14), .int p1, .int p2, .int p3, .int p4] : List Value).toArray s 0 0 (gA q [14, 15])) (F0 m 94 ls [.int y0]) := by
    intro y0 hf H locs hP hS ls hl
    unfold fX9_turned_J94 at hf
    cases hf
    exact W.iret hx hb hr (fun t ht hW => ⟨⟨rfl, by rw [ht]; exact hP⟩, hS.F ht⟩) hS.2.2 dX9_turned_94
  have J53 : ∀ (x1 : Int32) (x3 : Int32) (x4 : Int32) (x5 : Int32) (x6 : Int32), fX9_turned_J53 N Mh Mn Mm Mt x1 x3 x4 x5 x6 = some r0 → ∀ (H : Heap) (locs : List Loc), va_P D vwCl (w_14_15 q cI cJ cD Mh Mn Mm Mt) H → va_S (gA q [14, 15]) s.heap H locs → ∀ ls : Array Slot, lv_has ls 7 [(0, .ref (q 14)), (1, .int x1), (3, .int x3), (4, .int x4), (5, .int x5), (6, .int x6)] → W p l e (headSpec wsX9_turned rX9_turned).room s m ([.ref (q 14), .int p1, .int p2, .int p3, .int p4] : List Value).toArray below meth c H locs 0 0 (MQ below (gQ D (some (.int r0)) (w_14_15 q cI cJ cD Mh Mn Mm Mt) (gA q [14, 15])) ([.ref (q 14), .int p1, .int p2, .int p3, .int p4] : List Value).toArray s 0 0 (gA q [14, 15])) (F0 m 53 ls []) := by
    intro x1 x3 x4 x5 x6 hf H locs hP hS ls hl
    unfold fX9_turned_J53 at hf
    refine lv_iload hx hb dX9_turned_53 (lv_at hl 5 rfl) ?_
    refine lv_iload hx hb dX9_turned_55 (lv_at hl 4 rfl) ?_
    refine lv_icmp_ne (tgt := 64) hx hb dX9_turned_57 (by decide) (fun c_1 => ?_) (fun c_1 => ?_)
    · have hf := (if_neg c_1).symm.trans hf
      refine lv_aload_n hx hb dX9_turned_64 rfl (lv_at hl 0 rfl) ?_
      refine va_get (D := D) (ci := 7) (v := .ref (q 15)) (C := RX9) (T := TX9) (N := 11) hx hb hts huX9 hown hE.1 hP 0 rfl rfl 2 (by decide) hk7 (fun _ h9 => h9) rfl dX9_turned_65 ?_
      refine lv_iload_n hx hb dX9_turned_68 rfl (lv_at hl 1 rfl) ?_
      refine lv_iload hx hb dX9_turned_69 (lv_at hl 5 rfl) ?_
      refine lv_iload_n hx hb dX9_turned_71 rfl (lv_at hl 2 rfl) ?_
      refine lv_iadd hx hb dX9_turned_72 ?_
      refine lv_iload hx hb dX9_turned_73 (lv_at hl 4 rfl) ?_
      obtain ⟨g_2, hf⟩ := gd_some hf
      refine lv_irem hx hb dX9_turned_75 (nz_ne g_2) ?_
      refine lv_iadd hx hb dX9_turned_76 ?_
      obtain ⟨g_3, hf⟩ := gd_some hf
      refine va_iald hx hb hE.1 hP 1 0 rfl rfl (inb_in g_3) dX9_turned_77 ?_
      refine lv_aload_n hx hb dX9_turned_78 rfl (lv_at hl 0 rfl) ?_
      refine va_get (D := D) (ci := 7) (v := .ref (q 15)) (C := RX9) (T := TX9) (N := 11) hx hb hts huX9 hown hE.1 hP 0 rfl rfl 2 (by decide) hk7 (fun _ h9 => h9) rfl dX9_turned_79 ?_
      refine lv_iload_n hx hb dX9_turned_82 rfl (lv_at hl 1 rfl) ?_
      refine lv_iload hx hb dX9_turned_83 (lv_at hl 5 rfl) ?_
      refine lv_iload hx hb dX9_turned_85 (lv_at hl 3 rfl) ?_
      refine lv_iadd hx hb dX9_turned_87 ?_
      refine lv_iload hx hb dX9_turned_88 (lv_at hl 4 rfl) ?_
      obtain ⟨g_4, hf⟩ := gd_some hf
      refine lv_irem hx hb dX9_turned_90 (nz_ne g_4) ?_
      refine lv_iadd hx hb dX9_turned_91 ?_
      obtain ⟨g_5, hf⟩ := gd_some hf
      refine va_iald hx hb hE.1 hP 1 0 rfl rfl (inb_in g_5) dX9_turned_92 ?_
      refine lv_isub hx hb dX9_turned_93 ?_
      exact J94 ((Mt ((x1 + ((x6 + x3) - (x6 + x3) / x5 * x5))).toNatClampNeg) - (Mt ((x1 + ((x6 + x4) - (x6 + x4) / x5 * x5))).toNatClampNeg)) hf _ _ hP hS _ (lv_sub hl [] rfl)
    · have hf := (if_pos c_1).symm.trans hf
      refine lv_iconst (v := (0 : Int32)) hx hb dX9_turned_60 (by decide) ?_
      refine lv_goto (tgt := 94) hx hb dX9_turned_61 (by decide) ?_
      exact J94 (0 : Int32) hf _ _ hP hS _ (lv_sub hl [] rfl)
  have K8 : ∀ (n8 : Nat) (x1 : Int32) (x3 : Int32) (x4 : Int32) (x5 : Int32) (x6 : Int32), fX9_turned_H8 N Mh Mn Mm Mt n8 x1 x3 x4 x5 x6 = some r0 → ∀ (H : Heap) (locs : List Loc), va_P D vwCl (w_14_15 q cI cJ cD Mh Mn Mm Mt) H → va_S (gA q [14, 15]) s.heap H locs → ∀ ls : Array Slot, lv_has ls 7 [(0, .ref (q 14)), (1, .int x1), (3, .int x3), (4, .int x4), (5, .int x5), (6, .int x6)] → W p l e (headSpec wsX9_turned rX9_turned).room s m ([.ref (q 14), .int p1, .int p2, .int p3, .int p4] : List Value).toArray below meth c H locs 0 0 (MQ below (gQ D (some (.int r0)) (w_14_15 q cI cJ cD Mh Mn Mm Mt) (gA q [14, 15])) ([.ref (q 14), .int p1, .int p2, .int p3, .int p4] : List Value).toArray s 0 0 (gA q [14, 15])) (F0 m 8 ls []) := by
    intro n8
    induction n8 with
    | zero =>
      intro x1 x3 x4 x5 x6 hf
      exact nomatch (show (none : Option Int32) = some r0 from hf)
    | succ n8 ih8 =>
      intro x1 x3 x4 x5 x6 hf H locs hP hS ls hl
      have hf : fX9_turned_B8 N Mh Mn Mm Mt (fX9_turned_H8 N Mh Mn Mm Mt n8) x1 x3 x4 x5 x6 = some r0 := hf
      unfold fX9_turned_B8 at hf
      refine lv_iload hx hb dX9_turned_8 (lv_at hl 5 rfl) ?_
      refine lv_iload hx hb dX9_turned_10 (lv_at hl 4 rfl) ?_
      refine lv_icmp_ge (tgt := 53) hx hb dX9_turned_12 (by decide) (fun c_6 => ?_) (fun c_6 => ?_)
      · have hf := (if_pos c_6).symm.trans hf
        exact J53 x1 x3 x4 x5 x6 hf _ _ hP hS _ (lv_sub hl [0, 1, 2, 3, 4, 5] rfl)
      · have hf := (if_neg c_6).symm.trans hf
        refine lv_aload_n hx hb dX9_turned_15 rfl (lv_at hl 0 rfl) ?_
        refine va_get (D := D) (ci := 7) (v := .ref (q 15)) (C := RX9) (T := TX9) (N := 11) hx hb hts huX9 hown hE.1 hP 0 rfl rfl 2 (by decide) hk7 (fun _ h9 => h9) rfl dX9_turned_16 ?_
        refine lv_iload_n hx hb dX9_turned_19 rfl (lv_at hl 1 rfl) ?_
        refine lv_iload hx hb dX9_turned_20 (lv_at hl 5 rfl) ?_
        refine lv_iload_n hx hb dX9_turned_22 rfl (lv_at hl 2 rfl) ?_
        refine lv_iadd hx hb dX9_turned_23 ?_
        refine lv_iload hx hb dX9_turned_24 (lv_at hl 4 rfl) ?_
        obtain ⟨g_7, hf⟩ := gd_some hf
        refine lv_irem hx hb dX9_turned_26 (nz_ne g_7) ?_
        refine lv_iadd hx hb dX9_turned_27 ?_
        obtain ⟨g_8, hf⟩ := gd_some hf
        refine va_iald hx hb hE.1 hP 1 0 rfl rfl (inb_in g_8) dX9_turned_28 ?_
        refine lv_aload_n hx hb dX9_turned_29 rfl (lv_at hl 0 rfl) ?_
        refine va_get (D := D) (ci := 7) (v := .ref (q 15)) (C := RX9) (T := TX9) (N := 11) hx hb hts huX9 hown hE.1 hP 0 rfl rfl 2 (by decide) hk7 (fun _ h9 => h9) rfl dX9_turned_30 ?_
        refine lv_iload_n hx hb dX9_turned_33 rfl (lv_at hl 1 rfl) ?_
        refine lv_iload hx hb dX9_turned_34 (lv_at hl 5 rfl) ?_
        refine lv_iload hx hb dX9_turned_36 (lv_at hl 3 rfl) ?_
        refine lv_iadd hx hb dX9_turned_38 ?_
        refine lv_iload hx hb dX9_turned_39 (lv_at hl 4 rfl) ?_
        obtain ⟨g_9, hf⟩ := gd_some hf
        refine lv_irem hx hb dX9_turned_41 (nz_ne g_9) ?_
        refine lv_iadd hx hb dX9_turned_42 ?_
        obtain ⟨g_10, hf⟩ := gd_some hf
        refine va_iald hx hb hE.1 hP 1 0 rfl rfl (inb_in g_10) dX9_turned_43 ?_
        refine lv_icmp_ne (tgt := 53) hx hb dX9_turned_44 (by decide) (fun c_11 => ?_) (fun c_11 => ?_)
        · have hf := (if_neg c_11).symm.trans hf
          exact J53 x1 x3 x4 x5 x6 hf _ _ hP hS _ (lv_sub hl [0, 1, 2, 3, 4, 5] rfl)
        · have hf := (if_pos c_11).symm.trans hf
          refine lv_iinc (v := (x6 + 1)) (lv' := [(6, .int (x6 + 1)), (0, .ref (q 14)), (1, .int x1), (3, .int x3), (4, .int x4), (5, .int x5)]) hx hb dX9_turned_47 hl (k := 5) rfl rfl (by decide) rfl (fun ls hl => ?_)
          refine lv_goto (tgt := 8) hx hb dX9_turned_50 (by decide) ?_
          exact ih8 x1 x3 x4 x5 (x6 + 1) hf _ _ hP hS _ (lv_sub hl [1, 2, 3, 4, 5, 0] rfl)
  unfold fX9_turned at hf
  refine lv_iload_n hx hb dX9_turned_0 rfl (lv_at hl 2 rfl) ?_
  refine lv_iload_n hx hb dX9_turned_1 rfl (lv_at hl 1 rfl) ?_
  refine lv_isub hx hb dX9_turned_2 ?_
  refine lv_istore (lv' := [(5, .int (p2 - p1)), (0, .ref (q 14)), (1, .int p1), (2, .int p2), (3, .int p3), (4, .int p4)]) hx hb dX9_turned_3 hl (by decide) rfl (fun ls hl => ?_)
  refine lv_iconst (v := (0 : Int32)) hx hb dX9_turned_5 (by decide) ?_
  refine lv_istore (lv' := [(6, .int (0 : Int32)), (5, .int (p2 - p1)), (0, .ref (q 14)), (1, .int p1), (2, .int p2), (3, .int p3), (4, .int p4)]) hx hb dX9_turned_6 hl (by decide) rfl (fun ls hl => ?_)
  exact K8 N p1 p3 p4 (p2 - p1) (0 : Int32) hf _ _ hP hS _ (lv_sub hl [2, 3, 5, 6, 1, 0] rfl)
set_option maxHeartbeats 4000000 in
set_option maxRecDepth 100000 in
theorem kX9_least (l : Launch) (D : va_G) (cI cJ cD : ClassId) (q : Nat → Nat) (hq : gInj q) (N : Nat) (Mh : Int32) (Mn : Int32) (Mm : Int32) (Mt : (Nat → Int32)) (p1 : Int32) (p2 : Int32) (r0 : Int32) (hf : fX9_least N Mh Mn Mm Mt p1 p2 = some r0) : Met l yX9_least wsX9_least rX9_least (gP D cI cJ cD [.ref (q 14), .int p1, .int p2] (w_14_15 q cI cJ cD Mh Mn Mm Mt)) (gQ D (some (.int r0)) (w_14_15 q cI cJ cD Mh Mn Mm Mt) (gA q [14, 15])) 0 0 (gA q [14, 15]) := by
  refine Met.ofW (cc := cX9_least) (maxL := 5) (ret := (some .int)) (by decide +kernel) rfl ?_
  intro p e s m args below meth c s₁ B hml hv
  obtain ⟨rfl, hP, hE⟩ := hv
  have hx := B.exec
  have hb := B.bytes
  have hr := B.returns
  have hts := atoms_spec (ws := wsX9_least) B.pre
  have hown : s.vm.findClass RX9 = some m.cls := findClass_of_methodNamed B.named
  have hlocks := B.notSynchronized
  have hS : va_S (gA q [14, 15]) s.heap s.heap [] := va_S.rf
  have hl := lv_entry ([.ref (q 14), .int p1, .int p2]) (n := 5) (Nat.le_of_ble_eq_true rfl)
  rw [lg_entry_eq]
  generalize (lg_sl ([.ref (q 14), .int p1, .int p2]) ++ List.replicate (5 - (lg_sl ([.ref (q 14), .int p1, .int p2])).length) Slot.unset).toArray = ls at hl ⊢
  have hl : lv_has ls 5 [(0, .ref (q 14)), (1, .int p1), (2, .int p2)] := hl
  have J38 : ∀ (x3 : Int32), fX9_least_J38 N Mh Mn Mm Mt x3 = some r0 → ∀ (H : Heap) (locs : List Loc), va_P D vwCl (w_14_15 q cI cJ cD Mh Mn Mm Mt) H → va_S (gA q [14, 15]) s.heap H locs → ∀ ls : Array Slot, lv_has ls 5 [(3, .int x3)] → W p l e (headSpec wsX9_least rX9_least).room s m ([.ref (q 14), .int p1, .int p2] : List Value).toArray below meth c H locs 0 0 (MQ below (gQ D (some (.int r0)) (w_14_15 q cI cJ cD Mh Mn Mm Mt) (gA q [14, 15])) ([.ref (q 14), .int p1, .int p2] : List Value).toArray s 0 0 (gA q [14, 15])) (F0 m 38 ls []) := by
    intro x3 hf H locs hP hS ls hl
    unfold fX9_least_J38 at hf
    refine lv_iload_n hx hb dX9_least_38 rfl (lv_at hl 0 rfl) ?_
    cases hf
    exact W.iret hx hb hr (fun t ht hW => ⟨⟨rfl, by rw [ht]; exact hP⟩, hS.F ht⟩) hS.2.2 dX9_least_39
  have K5 : ∀ (n5 : Nat) (x1 : Int32) (x2 : Int32) (x3 : Int32) (x4 : Int32), fX9_least_H5 N Mh Mn Mm Mt n5 x1 x2 x3 x4 = some r0 → ∀ (H : Heap) (locs : List Loc), va_P D vwCl (w_14_15 q cI cJ cD Mh Mn Mm Mt) H → va_S (gA q [14, 15]) s.heap H locs → ∀ ls : Array Slot, lv_has ls 5 [(0, .ref (q 14)), (1, .int x1), (2, .int x2), (3, .int x3), (4, .int x4)] → W p l e (headSpec wsX9_least rX9_least).room s m ([.ref (q 14), .int p1, .int p2] : List Value).toArray below meth c H locs 0 0 (MQ below (gQ D (some (.int r0)) (w_14_15 q cI cJ cD Mh Mn Mm Mt) (gA q [14, 15])) ([.ref (q 14), .int p1, .int p2] : List Value).toArray s 0 0 (gA q [14, 15])) (F0 m 5 ls []) := by
    intro n5
    induction n5 with
    | zero =>
      intro x1 x2 x3 x4 hf
      exact nomatch (show (none : Option Int32) = some r0 from hf)
    | succ n5 ih5 =>
      have J31 : ∀ (x1 : Int32) (x2 : Int32) (x4 : Int32) (y0 : Int32), fX9_least_J31 N Mh Mn Mm Mt (fX9_least_H5 N Mh Mn Mm Mt n5) x1 x2 x4 y0 = some r0 → ∀ (H : Heap) (locs : List Loc), va_P D vwCl (w_14_15 q cI cJ cD Mh Mn Mm Mt) H → va_S (gA q [14, 15]) s.heap H locs → ∀ ls : Array Slot, lv_has ls 5 [(0, .ref (q 14)), (1, .int x1), (2, .int x2), (4, .int x4)] → W p l e (headSpec wsX9_least rX9_least).room s m ([.ref (q 14), .int p1, .int p2] : List Value).toArray below meth c H locs 0 0 (MQ below (gQ D (some (.int r0)) (w_14_15 q cI cJ cD Mh Mn Mm Mt) (gA q [14, 15])) ([.ref (q 14), .int p1, .int p2] : List Value).toArray s 0 0 (gA q [14, 15])) (F0 m 31 ls [.int y0]) := by
        intro x1 x2 x4 y0 hf H locs hP hS ls hl
        unfold fX9_least_J31 at hf
        refine lv_istore_n (lv' := [(3, .int y0), (0, .ref (q 14)), (1, .int x1), (2, .int x2), (4, .int x4)]) hx hb dX9_least_31 rfl hl (by decide) rfl (fun ls hl => ?_)
        refine lv_iinc (v := (x4 + 1)) (lv' := [(4, .int (x4 + 1)), (3, .int y0), (0, .ref (q 14)), (1, .int x1), (2, .int x2)]) hx hb dX9_least_32 hl (k := 4) rfl rfl (by decide) rfl (fun ls hl => ?_)
        refine lv_goto (tgt := 5) hx hb dX9_least_35 (by decide) ?_
        exact ih5 x1 x2 y0 (x4 + 1) hf _ _ hP hS _ (lv_sub hl [2, 3, 4, 1, 0] rfl)
      intro x1 x2 x3 x4 hf H locs hP hS ls hl
      have hf : fX9_least_B5 N Mh Mn Mm Mt (fX9_least_H5 N Mh Mn Mm Mt n5) x1 x2 x3 x4 = some r0 := hf
      unfold fX9_least_B5 at hf
      refine lv_iload hx hb dX9_least_5 (lv_at hl 4 rfl) ?_
      refine lv_iload_n hx hb dX9_least_7 rfl (lv_at hl 2 rfl) ?_
      refine lv_iload_n hx hb dX9_least_8 rfl (lv_at hl 1 rfl) ?_
      refine lv_isub hx hb dX9_least_9 ?_
      refine lv_icmp_ge (tgt := 38) hx hb dX9_least_10 (by decide) (fun c_1 => ?_) (fun c_1 => ?_)
      · have hf := (if_pos c_1).symm.trans hf
        exact J38 x3 hf _ _ hP hS _ (lv_sub hl [3] rfl)
      · have hf := (if_neg c_1).symm.trans hf
        refine lv_aload_n hx hb dX9_least_13 rfl (lv_at hl 0 rfl) ?_
        refine lv_iload_n hx hb dX9_least_14 rfl (lv_at hl 1 rfl) ?_
        refine lv_iload_n hx hb dX9_least_15 rfl (lv_at hl 2 rfl) ?_
        refine lv_iload hx hb dX9_least_16 (lv_at hl 4 rfl) ?_
        refine lv_iload_n hx hb dX9_least_18 rfl (lv_at hl 3 rfl) ?_
        obtain ⟨r19, hc, hf⟩ := bn_some hf
        try dsimp only at hf
        refine g_call0 (ws' := (w_14_15 q cI cJ cD Mh Mn Mm Mt)) (st1 := [.int r19]) hq [14, 15] [14, 15] [.inl 0, .inl 1] (va_runV (As := [.int x1, .int x2, .int x4, .int x3]) (rest := []) ⟨hx, hb, hml, hown, hts⟩ (kX9_turned l D cI cJ cD q hq N Mh Mn Mm Mt x1 x2 x4 x3 r19 hc) (cwV 4 hts gX9_least_X9_turned rfl rfl rfl (by decide +kernel) ⟨(Nat.le_of_ble_eq_true rfl), (Nat.le_of_ble_eq_true rfl)⟩) ⟨gP_blind, va_recv hE.1 hP (ci := 7) (q0 := 0) rfl rfl, fun U hU hW => ⟨rfl, by rw [hU]; exact hP.sub (ws' := (w_14_15 q cI cJ cD Mh Mn Mm Mt)) [0, 1] rfl, gEv.warm hW hE⟩⟩ rfl rfl hl.1 rfl (lv_room (Nat.le_of_ble_eq_true rfl)) dX9_least_19 ⟨Nat.zero_le _, Nat.zero_le _⟩) hP hS (gSub rfl) rfl rfl rfl rfl rfl (fun H locs hP hS => ?_)
        refine lv_if_ge (tgt := 30) hx hb dX9_least_22 (by decide) (fun c_2 => ?_) (fun c_2 => ?_)
        · have hf := (if_pos c_2).symm.trans hf
          refine lv_iload_n hx hb dX9_least_30 rfl (lv_at hl 3 rfl) ?_
          exact J31 x1 x2 x4 x3 hf _ _ hP hS _ (lv_sub hl [0, 1, 2, 4] rfl)
        · have hf := (if_neg c_2).symm.trans hf
          refine lv_iload hx hb dX9_least_25 (lv_at hl 4 rfl) ?_
          refine lv_goto (tgt := 31) hx hb dX9_least_27 (by decide) ?_
          exact J31 x1 x2 x4 x4 hf _ _ hP hS _ (lv_sub hl [0, 1, 2, 4] rfl)
  unfold fX9_least at hf
  refine lv_iconst (v := (0 : Int32)) hx hb dX9_least_0 (by decide) ?_
  refine lv_istore_n (lv' := [(3, .int (0 : Int32)), (0, .ref (q 14)), (1, .int p1), (2, .int p2)]) hx hb dX9_least_1 rfl hl (by decide) rfl (fun ls hl => ?_)
  refine lv_iconst (v := (1 : Int32)) hx hb dX9_least_2 (by decide) ?_
  refine lv_istore (lv' := [(4, .int (1 : Int32)), (3, .int (0 : Int32)), (0, .ref (q 14)), (1, .int p1), (2, .int p2)]) hx hb dX9_least_3 hl (by decide) rfl (fun ls hl => ?_)
  exact K5 N p1 p2 (0 : Int32) (1 : Int32) hf _ _ hP hS _ (lv_sub hl [2, 3, 4, 1, 0] rfl)
set_option maxHeartbeats 4000000 in
set_option maxRecDepth 100000 in
theorem kX9_leastRotation (l : Launch) (D : va_G) (cI cJ cD : ClassId) (q : Nat → Nat) (hq : gInj q) (N : Nat) (Mh : Int32) (Mn : Int32) (Mm : Int32) (Mt : (Nat → Int32)) (p1 : Int32) (p2 : Int32) (r0 : Int32) (Mh9 : Int32) (hf : fX9_leastRotation N Mh Mn Mm Mt p1 p2 = some (r0, Mh9)) : Met l yX9_leastRotation wsX9_leastRotation rX9_leastRotation (gP D cI cJ cD [.ref (q 14), .int p1, .int p2] (w_14_15 q cI cJ cD Mh Mn Mm Mt)) (gQ D (some (.int r0)) (w_14_15 q cI cJ cD Mh9 Mn Mm Mt) (gA q [14, 15])) 0 0 (gA q [14, 15]) := by
  refine Met.ofW (cc := cX9_leastRotation) (maxL := 3) (ret := (some .int)) (by decide +kernel) rfl ?_
  intro p e s m args below meth c s₁ B hml hv
  obtain ⟨rfl, hP, hE⟩ := hv
  have hx := B.exec
  have hb := B.bytes
  have hr := B.returns
  have hts := atoms_spec (ws := wsX9_leastRotation) B.pre
  have hown : s.vm.findClass RX9 = some m.cls := findClass_of_methodNamed B.named
  have hlocks := B.notSynchronized
  have hS : va_S (gA q [14, 15]) s.heap s.heap [] := va_S.rf
  have hl := lv_entry ([.ref (q 14), .int p1, .int p2]) (n := 3) (Nat.le_of_ble_eq_true rfl)
  rw [lg_entry_eq]
  generalize (lg_sl ([.ref (q 14), .int p1, .int p2]) ++ List.replicate (3 - (lg_sl ([.ref (q 14), .int p1, .int p2])).length) Slot.unset).toArray = ls at hl ⊢
  have hl : lv_has ls 3 [(0, .ref (q 14)), (1, .int p1), (2, .int p2)] := hl
  have J31 : ∀ (Mh : Int32) (y0 : Int32), fX9_leastRotation_J31 N Mn Mm Mt Mh y0 = some (r0, Mh9) → ∀ (H : Heap) (locs : List Loc), va_P D vwCl (w_14_15 q cI cJ cD Mh Mn Mm Mt) H → va_S (gA q [14, 15]) s.heap H locs → ∀ ls : Array Slot, lv_has ls 3 [] → W p l e (headSpec wsX9_leastRotation rX9_leastRotation).room s m ([.ref (q 14), .int p1, .int p2] : List Value).toArray below meth c H locs 0 0 (MQ below (gQ D (some (.int r0)) (w_14_15 q cI cJ cD Mh9 Mn Mm Mt) (gA q [14, 15])) ([.ref (q 14), .int p1, .int p2] : List Value).toArray s 0 0 (gA q [14, 15])) (F0 m 31 ls [.int y0]) := by
    intro Mh y0 hf H locs hP hS ls hl
    unfold fX9_leastRotation_J31 at hf
    cases hf
    exact W.iret hx hb hr (fun t ht hW => ⟨⟨rfl, by rw [ht]; exact hP⟩, hS.F ht⟩) hS.2.2 dX9_leastRotation_31
  have J15 : ∀ (Mh : Int32) (x1 : Int32) (x2 : Int32) (y1 : Int32), fX9_leastRotation_J15 N Mn Mm Mt Mh x1 x2 y1 = some (r0, Mh9) → ∀ (H : Heap) (locs : List Loc), va_P D vwCl (w_14_15 q cI cJ cD Mh Mn Mm Mt) H → va_S (gA q [14, 15]) s.heap H locs → ∀ ls : Array Slot, lv_has ls 3 [(0, .ref (q 14)), (1, .int x1), (2, .int x2)] → W p l e (headSpec wsX9_leastRotation rX9_leastRotation).room s m ([.ref (q 14), .int p1, .int p2] : List Value).toArray below meth c H locs 0 0 (MQ below (gQ D (some (.int r0)) (w_14_15 q cI cJ cD Mh9 Mn Mm Mt) (gA q [14, 15])) ([.ref (q 14), .int p1, .int p2] : List Value).toArray s 0 0 (gA q [14, 15])) (F0 m 15 ls [.int y1, .ref (q 14)]) := by
    intro Mh x1 x2 y1 hf H locs hP hS ls hl
    unfold fX9_leastRotation_J15 at hf
    obtain ⟨⟨r15, Mh15⟩, hc, hf⟩ := bn_some hf
    try dsimp only at hf
    refine g_call0 (ws' := (w_14_15 q cI cJ cD Mh15 Mn Mm Mt)) (st1 := [.int r15]) hq [14, 15] [14] [.inl 0, .inr 1] (va_runV (As := [.int y1]) (rest := []) ⟨hx, hb, hml, hown, hts⟩ (kX9_goesWell l D cI cJ cD q hq N Mh Mn Mm y1 r15 Mh15 hc) (cwV 1 hts gX9_leastRotation_X9_goesWell rfl rfl rfl (by decide +kernel) ⟨(Nat.le_of_ble_eq_true rfl), (Nat.le_of_ble_eq_true rfl)⟩) ⟨gP_blind, va_recv hE.1 hP (ci := 7) (q0 := 0) rfl rfl, fun U hU hW => ⟨rfl, by rw [hU]; exact hP.sub (ws' := (w_14 q cI cJ cD Mh Mn Mm)) [0] rfl, gEv.warm hW hE⟩⟩ rfl rfl hl.1 rfl (lv_room (Nat.le_of_ble_eq_true rfl)) dX9_leastRotation_15 ⟨Nat.zero_le _, Nat.zero_le _⟩) hP hS (gSub rfl) rfl rfl rfl rfl rfl (fun H locs hP hS => ?_)
    refine lv_if_eq (tgt := 30) hx hb dX9_leastRotation_18 (by decide) (fun c_1 => ?_) (fun c_1 => ?_)
    · have hf := (if_pos c_1).symm.trans hf
      refine lv_iconst (v := (0 : Int32)) hx hb dX9_leastRotation_30 (by decide) ?_
      exact J31 Mh15 (0 : Int32) hf _ _ hP hS _ (lv_sub hl [] rfl)
    · have hf := (if_neg c_1).symm.trans hf
      refine lv_aload_n hx hb dX9_leastRotation_21 rfl (lv_at hl 0 rfl) ?_
      refine lv_iload_n hx hb dX9_leastRotation_22 rfl (lv_at hl 1 rfl) ?_
      refine lv_iload_n hx hb dX9_leastRotation_23 rfl (lv_at hl 2 rfl) ?_
      obtain ⟨r24, hc, hf⟩ := bn_some hf
      try dsimp only at hf
      refine g_call0 (ws' := (w_14_15 q cI cJ cD Mh15 Mn Mm Mt)) (st1 := [.int r24]) hq [14, 15] [14, 15] [.inl 0, .inl 1] (va_runV (As := [.int x1, .int x2]) (rest := []) ⟨hx, hb, hml, hown, hts⟩ (kX9_least l D cI cJ cD q hq N Mh15 Mn Mm Mt x1 x2 r24 hc) (cwV 2 hts gX9_leastRotation_X9_least rfl rfl rfl (by decide +kernel) ⟨(Nat.le_of_ble_eq_true rfl), (Nat.le_of_ble_eq_true rfl)⟩) ⟨gP_blind, va_recv hE.1 hP (ci := 7) (q0 := 0) rfl rfl, fun U hU hW => ⟨rfl, by rw [hU]; exact hP.sub (ws' := (w_14_15 q cI cJ cD Mh15 Mn Mm Mt)) [0, 1] rfl, gEv.warm hW hE⟩⟩ rfl rfl hl.1 rfl (lv_room (Nat.le_of_ble_eq_true rfl)) dX9_leastRotation_24 ⟨Nat.zero_le _, Nat.zero_le _⟩) hP hS (gSub rfl) rfl rfl rfl rfl rfl (fun H locs hP hS => ?_)
      refine lv_goto (tgt := 31) hx hb dX9_leastRotation_27 (by decide) ?_
      exact J31 Mh15 r24 hf _ _ hP hS _ (lv_sub hl [] rfl)
  unfold fX9_leastRotation at hf
  refine lv_aload_n hx hb dX9_leastRotation_0 rfl (lv_at hl 0 rfl) ?_
  refine lv_aload_n hx hb dX9_leastRotation_1 rfl (lv_at hl 0 rfl) ?_
  refine lv_iload_n hx hb dX9_leastRotation_2 rfl (lv_at hl 1 rfl) ?_
  refine lv_iload_n hx hb dX9_leastRotation_3 rfl (lv_at hl 2 rfl) ?_
  obtain ⟨r4, hc, hf⟩ := bn_some hf
  try dsimp only at hf
  refine g_call0 (ws' := (w_14_15 q cI cJ cD Mh Mn Mm Mt)) (st1 := [.int r4, .ref (q 14)]) hq [14, 15] [14] [.inl 0, .inr 1] (va_runV (As := [.int p1, .int p2]) (rest := [.ref (q 14)]) ⟨hx, hb, hml, hown, hts⟩ (kX9_isPart l D cI cJ cD q hq N Mh Mn Mm p1 p2 r4 hc) (cwV 2 hts gX9_leastRotation_X9_isPart rfl rfl rfl (by decide +kernel) ⟨(Nat.le_of_ble_eq_true rfl), (Nat.le_of_ble_eq_true rfl)⟩) ⟨gP_blind, va_recv hE.1 hP (ci := 7) (q0 := 0) rfl rfl, fun U hU hW => ⟨rfl, by rw [hU]; exact hP.sub (ws' := (w_14 q cI cJ cD Mh Mn Mm)) [0] rfl, gEv.warm hW hE⟩⟩ rfl rfl hl.1 rfl (lv_room (Nat.le_of_ble_eq_true rfl)) dX9_leastRotation_4 ⟨Nat.zero_le _, Nat.zero_le _⟩) hP hS (gSub rfl) rfl rfl rfl rfl rfl (fun H locs hP hS => ?_)
  refine lv_if_eq (tgt := 14) hx hb dX9_leastRotation_7 (by decide) (fun c_2 => ?_) (fun c_2 => ?_)
  · have hf := (if_pos c_2).symm.trans hf
    refine lv_iconst (v := (1 : Int32)) hx hb dX9_leastRotation_14 (by decide) ?_
    exact J15 Mh p1 p2 (1 : Int32) hf _ _ hP hS _ (lv_sub hl [0, 1, 2] rfl)
  · have hf := (if_neg c_2).symm.trans hf
    refine lv_iconst (v := (0 : Int32)) hx hb dX9_leastRotation_10 (by decide) ?_
    refine lv_goto (tgt := 15) hx hb dX9_leastRotation_11 (by decide) ?_
    exact J15 Mh p1 p2 (0 : Int32) hf _ _ hP hS _ (lv_sub hl [0, 1, 2] rfl)
set_option maxHeartbeats 4000000 in
set_option maxRecDepth 100000 in
theorem kX9_greatestRotation (l : Launch) (D : va_G) (cI cJ cD : ClassId) (q : Nat → Nat) (hq : gInj q) (N : Nat) (Mh : Int32) (Mn : Int32) (Mm : Int32) (Mt : (Nat → Int32)) (p1 : Int32) (p2 : Int32) (r0 : Int32) (Mh9 : Int32) (hf : fX9_greatestRotation N Mh Mn Mm Mt p1 p2 = some (r0, Mh9)) : Met l yX9_greatestRotation wsX9_greatestRotation rX9_greatestRotation (gP D cI cJ cD [.ref (q 14), .int p1, .int p2] (w_14_15 q cI cJ cD Mh Mn Mm Mt)) (gQ D (some (.int r0)) (w_14_15 q cI cJ cD Mh9 Mn Mm Mt) (gA q [14, 15])) 0 0 (gA q [14, 15]) := by
  refine Met.ofW (cc := cX9_greatestRotation) (maxL := 5) (ret := (some .int)) (by decide +kernel) rfl ?_
  intro p e s m args below meth c s₁ B hml hv
  obtain ⟨rfl, hP, hE⟩ := hv
  have hx := B.exec
  have hb := B.bytes
  have hr := B.returns
  have hts := atoms_spec (ws := wsX9_greatestRotation) B.pre
  have hown : s.vm.findClass RX9 = some m.cls := findClass_of_methodNamed B.named
  have hlocks := B.notSynchronized
  have hS : va_S (gA q [14, 15]) s.heap s.heap [] := va_S.rf
  have hl := lv_entry ([.ref (q 14), .int p1, .int p2]) (n := 5) (Nat.le_of_ble_eq_true rfl)
  rw [lg_entry_eq]
  generalize (lg_sl ([.ref (q 14), .int p1, .int p2]) ++ List.replicate (5 - (lg_sl ([.ref (q 14), .int p1, .int p2])).length) Slot.unset).toArray = ls at hl ⊢
  have hl : lv_has ls 5 [(0, .ref (q 14)), (1, .int p1), (2, .int p2)] := hl
  have J61 : ∀ (Mh : Int32) (x3 : Int32), fX9_greatestRotation_J61 N Mn Mm Mt Mh x3 = some (r0, Mh9) → ∀ (H : Heap) (locs : List Loc), va_P D vwCl (w_14_15 q cI cJ cD Mh Mn Mm Mt) H → va_S (gA q [14, 15]) s.heap H locs → ∀ ls : Array Slot, lv_has ls 5 [(3, .int x3)] → W p l e (headSpec wsX9_greatestRotation rX9_greatestRotation).room s m ([.ref (q 14), .int p1, .int p2] : List Value).toArray below meth c H locs 0 0 (MQ below (gQ D (some (.int r0)) (w_14_15 q cI cJ cD Mh9 Mn Mm Mt) (gA q [14, 15])) ([.ref (q 14), .int p1, .int p2] : List Value).toArray s 0 0 (gA q [14, 15])) (F0 m 61 ls []) := by
    intro Mh x3 hf H locs hP hS ls hl
    unfold fX9_greatestRotation_J61 at hf
    refine lv_iload_n hx hb dX9_greatestRotation_61 rfl (lv_at hl 0 rfl) ?_
    cases hf
    exact W.iret hx hb hr (fun t ht hW => ⟨⟨rfl, by rw [ht]; exact hP⟩, hS.F ht⟩) hS.2.2 dX9_greatestRotation_62
  have K28 : ∀ (n28 : Nat) (Mh : Int32) (x1 : Int32) (x2 : Int32) (x3 : Int32) (x4 : Int32), fX9_greatestRotation_H28 N Mn Mm Mt n28 Mh x1 x2 x3 x4 = some (r0, Mh9) → ∀ (H : Heap) (locs : List Loc), va_P D vwCl (w_14_15 q cI cJ cD Mh Mn Mm Mt) H → va_S (gA q [14, 15]) s.heap H locs → ∀ ls : Array Slot, lv_has ls 5 [(0, .ref (q 14)), (1, .int x1), (2, .int x2), (3, .int x3), (4, .int x4)] → W p l e (headSpec wsX9_greatestRotation rX9_greatestRotation).room s m ([.ref (q 14), .int p1, .int p2] : List Value).toArray below meth c H locs 0 0 (MQ below (gQ D (some (.int r0)) (w_14_15 q cI cJ cD Mh9 Mn Mm Mt) (gA q [14, 15])) ([.ref (q 14), .int p1, .int p2] : List Value).toArray s 0 0 (gA q [14, 15])) (F0 m 28 ls []) := by
    intro n28
    induction n28 with
    | zero =>
      intro Mh x1 x2 x3 x4 hf
      exact nomatch (show (none : Option (Int32 × Int32)) = some (r0, Mh9) from hf)
    | succ n28 ih28 =>
      have J54 : ∀ (Mh : Int32) (x1 : Int32) (x2 : Int32) (x4 : Int32) (y0 : Int32), fX9_greatestRotation_J54 N Mn Mm Mt (fX9_greatestRotation_H28 N Mn Mm Mt n28) Mh x1 x2 x4 y0 = some (r0, Mh9) → ∀ (H : Heap) (locs : List Loc), va_P D vwCl (w_14_15 q cI cJ cD Mh Mn Mm Mt) H → va_S (gA q [14, 15]) s.heap H locs → ∀ ls : Array Slot, lv_has ls 5 [(0, .ref (q 14)), (1, .int x1), (2, .int x2), (4, .int x4)] → W p l e (headSpec wsX9_greatestRotation rX9_greatestRotation).room s m ([.ref (q 14), .int p1, .int p2] : List Value).toArray below meth c H locs 0 0 (MQ below (gQ D (some (.int r0)) (w_14_15 q cI cJ cD Mh9 Mn Mm Mt) (gA q [14, 15])) ([.ref (q 14), .int p1, .int p2] : List Value).toArray s 0 0 (gA q [14, 15])) (F0 m 54 ls [.int y0]) := by
        intro Mh x1 x2 x4 y0 hf H locs hP hS ls hl
        unfold fX9_greatestRotation_J54 at hf
        refine lv_istore_n (lv' := [(3, .int y0), (0, .ref (q 14)), (1, .int x1), (2, .int x2), (4, .int x4)]) hx hb dX9_greatestRotation_54 rfl hl (by decide) rfl (fun ls hl => ?_)
        refine lv_iinc (v := (x4 + 1)) (lv' := [(4, .int (x4 + 1)), (3, .int y0), (0, .ref (q 14)), (1, .int x1), (2, .int x2)]) hx hb dX9_greatestRotation_55 hl (k := 4) rfl rfl (by decide) rfl (fun ls hl => ?_)
        refine lv_goto (tgt := 28) hx hb dX9_greatestRotation_58 (by decide) ?_
        exact ih28 Mh x1 x2 y0 (x4 + 1) hf _ _ hP hS _ (lv_sub hl [2, 3, 4, 1, 0] rfl)
      intro Mh x1 x2 x3 x4 hf H locs hP hS ls hl
      have hf : fX9_greatestRotation_B28 N Mn Mm Mt (fX9_greatestRotation_H28 N Mn Mm Mt n28) Mh x1 x2 x3 x4 = some (r0, Mh9) := hf
      unfold fX9_greatestRotation_B28 at hf
      refine lv_iload hx hb dX9_greatestRotation_28 (lv_at hl 4 rfl) ?_
      refine lv_iload_n hx hb dX9_greatestRotation_30 rfl (lv_at hl 2 rfl) ?_
      refine lv_iload_n hx hb dX9_greatestRotation_31 rfl (lv_at hl 1 rfl) ?_
      refine lv_isub hx hb dX9_greatestRotation_32 ?_
      refine lv_icmp_ge (tgt := 61) hx hb dX9_greatestRotation_33 (by decide) (fun c_1 => ?_) (fun c_1 => ?_)
      · have hf := (if_pos c_1).symm.trans hf
        exact J61 Mh x3 hf _ _ hP hS _ (lv_sub hl [3] rfl)
      · have hf := (if_neg c_1).symm.trans hf
        refine lv_aload_n hx hb dX9_greatestRotation_36 rfl (lv_at hl 0 rfl) ?_
        refine lv_iload_n hx hb dX9_greatestRotation_37 rfl (lv_at hl 1 rfl) ?_
        refine lv_iload_n hx hb dX9_greatestRotation_38 rfl (lv_at hl 2 rfl) ?_
        refine lv_iload hx hb dX9_greatestRotation_39 (lv_at hl 4 rfl) ?_
        refine lv_iload_n hx hb dX9_greatestRotation_41 rfl (lv_at hl 3 rfl) ?_
        obtain ⟨r42, hc, hf⟩ := bn_some hf
        try dsimp only at hf
        refine g_call0 (ws' := (w_14_15 q cI cJ cD Mh Mn Mm Mt)) (st1 := [.int r42]) hq [14, 15] [14, 15] [.inl 0, .inl 1] (va_runV (As := [.int x1, .int x2, .int x4, .int x3]) (rest := []) ⟨hx, hb, hml, hown, hts⟩ (kX9_turned l D cI cJ cD q hq N Mh Mn Mm Mt x1 x2 x4 x3 r42 hc) (cwV 4 hts gX9_greatestRotation_X9_turned rfl rfl rfl (by decide +kernel) ⟨(Nat.le_of_ble_eq_true rfl), (Nat.le_of_ble_eq_true rfl)⟩) ⟨gP_blind, va_recv hE.1 hP (ci := 7) (q0 := 0) rfl rfl, fun U hU hW => ⟨rfl, by rw [hU]; exact hP.sub (ws' := (w_14_15 q cI cJ cD Mh Mn Mm Mt)) [0, 1] rfl, gEv.warm hW hE⟩⟩ rfl rfl hl.1 rfl (lv_room (Nat.le_of_ble_eq_true rfl)) dX9_greatestRotation_42 ⟨Nat.zero_le _, Nat.zero_le _⟩) hP hS (gSub rfl) rfl rfl rfl rfl rfl (fun H locs hP hS => ?_)
        refine lv_if_le (tgt := 53) hx hb dX9_greatestRotation_45 (by decide) (fun c_2 => ?_) (fun c_2 => ?_)
        · have hf := (if_pos c_2).symm.trans hf
          refine lv_iload_n hx hb dX9_greatestRotation_53 rfl (lv_at hl 3 rfl) ?_
          exact J54 Mh x1 x2 x4 x3 hf _ _ hP hS _ (lv_sub hl [0, 1, 2, 4] rfl)
        · have hf := (if_neg c_2).symm.trans hf
          refine lv_iload hx hb dX9_greatestRotation_48 (lv_at hl 4 rfl) ?_
          refine lv_goto (tgt := 54) hx hb dX9_greatestRotation_50 (by decide) ?_
          exact J54 Mh x1 x2 x4 x4 hf _ _ hP hS _ (lv_sub hl [0, 1, 2, 4] rfl)
  have J15 : ∀ (Mh : Int32) (x1 : Int32) (x2 : Int32) (y1 : Int32), fX9_greatestRotation_J15 N Mn Mm Mt Mh x1 x2 y1 = some (r0, Mh9) → ∀ (H : Heap) (locs : List Loc), va_P D vwCl (w_14_15 q cI cJ cD Mh Mn Mm Mt) H → va_S (gA q [14, 15]) s.heap H locs → ∀ ls : Array Slot, lv_has ls 5 [(0, .ref (q 14)), (1, .int x1), (2, .int x2)] → W p l e (headSpec wsX9_greatestRotation rX9_greatestRotation).room s m ([.ref (q 14), .int p1, .int p2] : List Value).toArray below meth c H locs 0 0 (MQ below (gQ D (some (.int r0)) (w_14_15 q cI cJ cD Mh9 Mn Mm Mt) (gA q [14, 15])) ([.ref (q 14), .int p1, .int p2] : List Value).toArray s 0 0 (gA q [14, 15])) (F0 m 15 ls [.int y1, .ref (q 14)]) := by
    intro Mh x1 x2 y1 hf H locs hP hS ls hl
    unfold fX9_greatestRotation_J15 at hf
    obtain ⟨⟨r15, Mh15⟩, hc, hf⟩ := bn_some hf
    try dsimp only at hf
    refine g_call0 (ws' := (w_14_15 q cI cJ cD Mh15 Mn Mm Mt)) (st1 := [.int r15]) hq [14, 15] [14] [.inl 0, .inr 1] (va_runV (As := [.int y1]) (rest := []) ⟨hx, hb, hml, hown, hts⟩ (kX9_goesWell l D cI cJ cD q hq N Mh Mn Mm y1 r15 Mh15 hc) (cwV 1 hts gX9_greatestRotation_X9_goesWell rfl rfl rfl (by decide +kernel) ⟨(Nat.le_of_ble_eq_true rfl), (Nat.le_of_ble_eq_true rfl)⟩) ⟨gP_blind, va_recv hE.1 hP (ci := 7) (q0 := 0) rfl rfl, fun U hU hW => ⟨rfl, by rw [hU]; exact hP.sub (ws' := (w_14 q cI cJ cD Mh Mn Mm)) [0] rfl, gEv.warm hW hE⟩⟩ rfl rfl hl.1 rfl (lv_room (Nat.le_of_ble_eq_true rfl)) dX9_greatestRotation_15 ⟨Nat.zero_le _, Nat.zero_le _⟩) hP hS (gSub rfl) rfl rfl rfl rfl rfl (fun H locs hP hS => ?_)
    refine lv_if_ne (tgt := 23) hx hb dX9_greatestRotation_18 (by decide) (fun c_3 => ?_) (fun c_3 => ?_)
    · have hf := (if_neg c_3).symm.trans hf
      refine lv_iconst (v := (0 : Int32)) hx hb dX9_greatestRotation_23 (by decide) ?_
      refine lv_istore_n (lv' := [(3, .int (0 : Int32)), (0, .ref (q 14)), (1, .int x1), (2, .int x2)]) hx hb dX9_greatestRotation_24 rfl hl (by decide) rfl (fun ls hl => ?_)
      refine lv_iconst (v := (1 : Int32)) hx hb dX9_greatestRotation_25 (by decide) ?_
      refine lv_istore (lv' := [(4, .int (1 : Int32)), (3, .int (0 : Int32)), (0, .ref (q 14)), (1, .int x1), (2, .int x2)]) hx hb dX9_greatestRotation_26 hl (by decide) rfl (fun ls hl => ?_)
      exact K28 N Mh15 x1 x2 (0 : Int32) (1 : Int32) hf _ _ hP hS _ (lv_sub hl [2, 3, 4, 1, 0] rfl)
    · have hf := (if_pos c_3).symm.trans hf
      refine lv_iconst (v := (0 : Int32)) hx hb dX9_greatestRotation_21 (by decide) ?_
      cases hf
      exact W.iret hx hb hr (fun t ht hW => ⟨⟨rfl, by rw [ht]; exact hP⟩, hS.F ht⟩) hS.2.2 dX9_greatestRotation_22
  unfold fX9_greatestRotation at hf
  refine lv_aload_n hx hb dX9_greatestRotation_0 rfl (lv_at hl 0 rfl) ?_
  refine lv_aload_n hx hb dX9_greatestRotation_1 rfl (lv_at hl 0 rfl) ?_
  refine lv_iload_n hx hb dX9_greatestRotation_2 rfl (lv_at hl 1 rfl) ?_
  refine lv_iload_n hx hb dX9_greatestRotation_3 rfl (lv_at hl 2 rfl) ?_
  obtain ⟨r4, hc, hf⟩ := bn_some hf
  try dsimp only at hf
  refine g_call0 (ws' := (w_14_15 q cI cJ cD Mh Mn Mm Mt)) (st1 := [.int r4, .ref (q 14)]) hq [14, 15] [14] [.inl 0, .inr 1] (va_runV (As := [.int p1, .int p2]) (rest := [.ref (q 14)]) ⟨hx, hb, hml, hown, hts⟩ (kX9_isPart l D cI cJ cD q hq N Mh Mn Mm p1 p2 r4 hc) (cwV 2 hts gX9_greatestRotation_X9_isPart rfl rfl rfl (by decide +kernel) ⟨(Nat.le_of_ble_eq_true rfl), (Nat.le_of_ble_eq_true rfl)⟩) ⟨gP_blind, va_recv hE.1 hP (ci := 7) (q0 := 0) rfl rfl, fun U hU hW => ⟨rfl, by rw [hU]; exact hP.sub (ws' := (w_14 q cI cJ cD Mh Mn Mm)) [0] rfl, gEv.warm hW hE⟩⟩ rfl rfl hl.1 rfl (lv_room (Nat.le_of_ble_eq_true rfl)) dX9_greatestRotation_4 ⟨Nat.zero_le _, Nat.zero_le _⟩) hP hS (gSub rfl) rfl rfl rfl rfl rfl (fun H locs hP hS => ?_)
  refine lv_if_eq (tgt := 14) hx hb dX9_greatestRotation_7 (by decide) (fun c_4 => ?_) (fun c_4 => ?_)
  · have hf := (if_pos c_4).symm.trans hf
    refine lv_iconst (v := (1 : Int32)) hx hb dX9_greatestRotation_14 (by decide) ?_
    exact J15 Mh p1 p2 (1 : Int32) hf _ _ hP hS _ (lv_sub hl [0, 1, 2] rfl)
  · have hf := (if_neg c_4).symm.trans hf
    refine lv_iconst (v := (0 : Int32)) hx hb dX9_greatestRotation_10 (by decide) ?_
    refine lv_goto (tgt := 15) hx hb dX9_greatestRotation_11 (by decide) ?_
    exact J15 Mh p1 p2 (0 : Int32) hf _ _ hP hS _ (lv_sub hl [0, 1, 2] rfl)
set_option maxHeartbeats 4000000 in
set_option maxRecDepth 100000 in
theorem kX9_rotations (l : Launch) (D : va_G) (cI cJ cD : ClassId) (q : Nat → Nat) (hq : gInj q) (N : Nat) (Mh : Int32) (Mn : Int32) (Mm : Int32) (Mt : (Nat → Int32)) (p1 : Int32) (p2 : Int32) (r0 : Int32) (Mh9 : Int32) (hf : fX9_rotations N Mh Mn Mm Mt p1 p2 = some (r0, Mh9)) : Met l yX9_rotations wsX9_rotations rX9_rotations (gP D cI cJ cD [.ref (q 14), .int p1, .int p2] (w_14_15 q cI cJ cD Mh Mn Mm Mt)) (gQ D (some (.int r0)) (w_14_15 q cI cJ cD Mh9 Mn Mm Mt) (gA q [14, 15])) 0 0 (gA q [14, 15]) := by
  refine Met.ofW (cc := cX9_rotations) (maxL := 7) (ret := (some .int)) (by decide +kernel) rfl ?_
  intro p e s m args below meth c s₁ B hml hv
  obtain ⟨rfl, hP, hE⟩ := hv
  have hx := B.exec
  have hb := B.bytes
  have hr := B.returns
  have hts := atoms_spec (ws := wsX9_rotations) B.pre
  have hown : s.vm.findClass RX9 = some m.cls := findClass_of_methodNamed B.named
  have hlocks := B.notSynchronized
  have hS : va_S (gA q [14, 15]) s.heap s.heap [] := va_S.rf
  have hl := lv_entry ([.ref (q 14), .int p1, .int p2]) (n := 7) (Nat.le_of_ble_eq_true rfl)
  rw [lg_entry_eq]
  generalize (lg_sl ([.ref (q 14), .int p1, .int p2]) ++ List.replicate (7 - (lg_sl ([.ref (q 14), .int p1, .int p2])).length) Slot.unset).toArray = ls at hl ⊢
  have hl : lv_has ls 7 [(0, .ref (q 14)), (1, .int p1), (2, .int p2)] := hl
  have J99 : ∀ (Mh : Int32) (x3 : Int32), fX9_rotations_J99 N Mn Mm Mt Mh x3 = some (r0, Mh9) → ∀ (H : Heap) (locs : List Loc), va_P D vwCl (w_14_15 q cI cJ cD Mh Mn Mm Mt) H → va_S (gA q [14, 15]) s.heap H locs → ∀ ls : Array Slot, lv_has ls 7 [(3, .int x3)] → W p l e (headSpec wsX9_rotations rX9_rotations).room s m ([.ref (q 14), .int p1, .int p2] : List Value).toArray below meth c H locs 0 0 (MQ below (gQ D (some (.int r0)) (w_14_15 q cI cJ cD Mh9 Mn Mm Mt) (gA q [14, 15])) ([.ref (q 14), .int p1, .int p2] : List Value).toArray s 0 0 (gA q [14, 15])) (F0 m 99 ls []) := by
    intro Mh x3 hf H locs hP hS ls hl
    unfold fX9_rotations_J99 at hf
    refine lv_iload_n hx hb dX9_rotations_99 rfl (lv_at hl 0 rfl) ?_
    cases hf
    exact W.iret hx hb hr (fun t ht hW => ⟨⟨rfl, by rw [ht]; exact hP⟩, hS.F ht⟩) hS.2.2 dX9_rotations_100
  have K28 : ∀ (n28 : Nat) (Mh : Int32) (x1 : Int32) (x2 : Int32) (x3 : Int32) (x4 : Int32), fX9_rotations_H28 N Mn Mm Mt n28 Mh x1 x2 x3 x4 = some (r0, Mh9) → ∀ (H : Heap) (locs : List Loc), va_P D vwCl (w_14_15 q cI cJ cD Mh Mn Mm Mt) H → va_S (gA q [14, 15]) s.heap H locs → ∀ ls : Array Slot, lv_has ls 7 [(0, .ref (q 14)), (1, .int x1), (2, .int x2), (3, .int x3), (4, .int x4)] → W p l e (headSpec wsX9_rotations rX9_rotations).room s m ([.ref (q 14), .int p1, .int p2] : List Value).toArray below meth c H locs 0 0 (MQ below (gQ D (some (.int r0)) (w_14_15 q cI cJ cD Mh9 Mn Mm Mt) (gA q [14, 15])) ([.ref (q 14), .int p1, .int p2] : List Value).toArray s 0 0 (gA q [14, 15])) (F0 m 28 ls []) := by
    intro n28
    induction n28 with
    | zero =>
      intro Mh x1 x2 x3 x4 hf
      exact nomatch (show (none : Option (Int32 × Int32)) = some (r0, Mh9) from hf)
    | succ n28 ih28 =>
      have J91 : ∀ (Mh : Int32) (x1 : Int32) (x2 : Int32) (x4 : Int32) (y0 : Int32) (y1 : Int32), fX9_rotations_J91 N Mn Mm Mt (fX9_rotations_H28 N Mn Mm Mt n28) Mh x1 x2 x4 y0 y1 = some (r0, Mh9) → ∀ (H : Heap) (locs : List Loc), va_P D vwCl (w_14_15 q cI cJ cD Mh Mn Mm Mt) H → va_S (gA q [14, 15]) s.heap H locs → ∀ ls : Array Slot, lv_has ls 7 [(0, .ref (q 14)), (1, .int x1), (2, .int x2), (4, .int x4)] → W p l e (headSpec wsX9_rotations rX9_rotations).room s m ([.ref (q 14), .int p1, .int p2] : List Value).toArray below meth c H locs 0 0 (MQ below (gQ D (some (.int r0)) (w_14_15 q cI cJ cD Mh9 Mn Mm Mt) (gA q [14, 15])) ([.ref (q 14), .int p1, .int p2] : List Value).toArray s 0 0 (gA q [14, 15])) (F0 m 91 ls [.int y1, .int y0]) := by
        intro Mh x1 x2 x4 y0 y1 hf H locs hP hS ls hl
        unfold fX9_rotations_J91 at hf
        refine lv_iadd hx hb dX9_rotations_91 ?_
        refine lv_istore_n (lv' := [(3, .int (y0 + y1)), (0, .ref (q 14)), (1, .int x1), (2, .int x2), (4, .int x4)]) hx hb dX9_rotations_92 rfl hl (by decide) rfl (fun ls hl => ?_)
        refine lv_iinc (v := (x4 + 1)) (lv' := [(4, .int (x4 + 1)), (3, .int (y0 + y1)), (0, .ref (q 14)), (1, .int x1), (2, .int x2)]) hx hb dX9_rotations_93 hl (k := 4) rfl rfl (by decide) rfl (fun ls hl => ?_)
        refine lv_goto (tgt := 28) hx hb dX9_rotations_96 (by decide) ?_
        exact ih28 Mh x1 x2 (y0 + y1) (x4 + 1) hf _ _ hP hS _ (lv_sub hl [2, 3, 4, 1, 0] rfl)
      have J80 : ∀ (Mh : Int32) (x1 : Int32) (x2 : Int32) (x3 : Int32) (x4 : Int32) (x5 : Int32), fX9_rotations_J80 N Mn Mm Mt (fX9_rotations_H28 N Mn Mm Mt n28) Mh x1 x2 x3 x4 x5 = some (r0, Mh9) → ∀ (H : Heap) (locs : List Loc), va_P D vwCl (w_14_15 q cI cJ cD Mh Mn Mm Mt) H → va_S (gA q [14, 15]) s.heap H locs → ∀ ls : Array Slot, lv_has ls 7 [(0, .ref (q 14)), (1, .int x1), (2, .int x2), (3, .int x3), (4, .int x4), (5, .int x5)] → W p l e (headSpec wsX9_rotations rX9_rotations).room s m ([.ref (q 14), .int p1, .int p2] : List Value).toArray below meth c H locs 0 0 (MQ below (gQ D (some (.int r0)) (w_14_15 q cI cJ cD Mh9 Mn Mm Mt) (gA q [14, 15])) ([.ref (q 14), .int p1, .int p2] : List Value).toArray s 0 0 (gA q [14, 15])) (F0 m 80 ls []) := by
        intro Mh x1 x2 x3 x4 x5 hf H locs hP hS ls hl
        unfold fX9_rotations_J80 at hf
        refine lv_iload_n hx hb dX9_rotations_80 rfl (lv_at hl 3 rfl) ?_
        refine lv_iload hx hb dX9_rotations_81 (lv_at hl 5 rfl) ?_
        refine lv_if_eq (tgt := 90) hx hb dX9_rotations_83 (by decide) (fun c_1 => ?_) (fun c_1 => ?_)
        · have hf := (if_pos c_1).symm.trans hf
          refine lv_iconst (v := (0 : Int32)) hx hb dX9_rotations_90 (by decide) ?_
          exact J91 Mh x1 x2 x4 x3 (0 : Int32) hf _ _ hP hS _ (lv_sub hl [0, 1, 2, 4] rfl)
        · have hf := (if_neg c_1).symm.trans hf
          refine lv_iconst (v := (1 : Int32)) hx hb dX9_rotations_86 (by decide) ?_
          refine lv_goto (tgt := 91) hx hb dX9_rotations_87 (by decide) ?_
          exact J91 Mh x1 x2 x4 x3 (1 : Int32) hf _ _ hP hS _ (lv_sub hl [0, 1, 2, 4] rfl)
      have K42 : ∀ (n42 : Nat) (Mh : Int32) (x1 : Int32) (x2 : Int32) (x3 : Int32) (x4 : Int32) (x5 : Int32) (x6 : Int32), fX9_rotations_H42 N Mn Mm Mt (fX9_rotations_H28 N Mn Mm Mt n28) n42 Mh x1 x2 x3 x4 x5 x6 = some (r0, Mh9) → ∀ (H : Heap) (locs : List Loc), va_P D vwCl (w_14_15 q cI cJ cD Mh Mn Mm Mt) H → va_S (gA q [14, 15]) s.heap H locs → ∀ ls : Array Slot, lv_has ls 7 [(0, .ref (q 14)), (1, .int x1), (2, .int x2), (3, .int x3), (4, .int x4), (5, .int x5), (6, .int x6)] → W p l e (headSpec wsX9_rotations rX9_rotations).room s m ([.ref (q 14), .int p1, .int p2] : List Value).toArray below meth c H locs 0 0 (MQ below (gQ D (some (.int r0)) (w_14_15 q cI cJ cD Mh9 Mn Mm Mt) (gA q [14, 15])) ([.ref (q 14), .int p1, .int p2] : List Value).toArray s 0 0 (gA q [14, 15])) (F0 m 42 ls []) := by
        intro n42
        induction n42 with
        | zero =>
          intro Mh x1 x2 x3 x4 x5 x6 hf
          exact nomatch (show (none : Option (Int32 × Int32)) = some (r0, Mh9) from hf)
        | succ n42 ih42 =>
          have J72 : ∀ (Mh : Int32) (x1 : Int32) (x2 : Int32) (x3 : Int32) (x4 : Int32) (x6 : Int32) (y0 : Int32), fX9_rotations_J72 N Mn Mm Mt (fX9_rotations_H28 N Mn Mm Mt n28) (fX9_rotations_H42 N Mn Mm Mt (fX9_rotations_H28 N Mn Mm Mt n28) n42) Mh x1 x2 x3 x4 x6 y0 = some (r0, Mh9) → ∀ (H : Heap) (locs : List Loc), va_P D vwCl (w_14_15 q cI cJ cD Mh Mn Mm Mt) H → va_S (gA q [14, 15]) s.heap H locs → ∀ ls : Array Slot, lv_has ls 7 [(0, .ref (q 14)), (1, .int x1), (2, .int x2), (3, .int x3), (4, .int x4), (6, .int x6)] → W p l e (headSpec wsX9_rotations rX9_rotations).room s m ([.ref (q 14), .int p1, .int p2] : List Value).toArray below meth c H locs 0 0 (MQ below (gQ D (some (.int r0)) (w_14_15 q cI cJ cD Mh9 Mn Mm Mt) (gA q [14, 15])) ([.ref (q 14), .int p1, .int p2] : List Value).toArray s 0 0 (gA q [14, 15])) (F0 m 72 ls [.int y0]) := by
            intro Mh x1 x2 x3 x4 x6 y0 hf H locs hP hS ls hl
            unfold fX9_rotations_J72 at hf
            refine lv_istore (lv' := [(5, .int y0), (0, .ref (q 14)), (1, .int x1), (2, .int x2), (3, .int x3), (4, .int x4), (6, .int x6)]) hx hb dX9_rotations_72 hl (by decide) rfl (fun ls hl => ?_)
            refine lv_iinc (v := (x6 + 1)) (lv' := [(6, .int (x6 + 1)), (5, .int y0), (0, .ref (q 14)), (1, .int x1), (2, .int x2), (3, .int x3), (4, .int x4)]) hx hb dX9_rotations_74 hl (k := 6) rfl rfl (by decide) rfl (fun ls hl => ?_)
            refine lv_goto (tgt := 42) hx hb dX9_rotations_77 (by decide) ?_
            exact ih42 Mh x1 x2 x3 x4 y0 (x6 + 1) hf _ _ hP hS _ (lv_sub hl [2, 3, 4, 5, 6, 1, 0] rfl)
          have J71 : ∀ (Mh : Int32) (x1 : Int32) (x2 : Int32) (x3 : Int32) (x4 : Int32) (x6 : Int32), fX9_rotations_J71 N Mn Mm Mt (fX9_rotations_H28 N Mn Mm Mt n28) (fX9_rotations_H42 N Mn Mm Mt (fX9_rotations_H28 N Mn Mm Mt n28) n42) Mh x1 x2 x3 x4 x6 = some (r0, Mh9) → ∀ (H : Heap) (locs : List Loc), va_P D vwCl (w_14_15 q cI cJ cD Mh Mn Mm Mt) H → va_S (gA q [14, 15]) s.heap H locs → ∀ ls : Array Slot, lv_has ls 7 [(0, .ref (q 14)), (1, .int x1), (2, .int x2), (3, .int x3), (4, .int x4), (6, .int x6)] → W p l e (headSpec wsX9_rotations rX9_rotations).room s m ([.ref (q 14), .int p1, .int p2] : List Value).toArray below meth c H locs 0 0 (MQ below (gQ D (some (.int r0)) (w_14_15 q cI cJ cD Mh9 Mn Mm Mt) (gA q [14, 15])) ([.ref (q 14), .int p1, .int p2] : List Value).toArray s 0 0 (gA q [14, 15])) (F0 m 71 ls []) := by
            intro Mh x1 x2 x3 x4 x6 hf H locs hP hS ls hl
            unfold fX9_rotations_J71 at hf
            refine lv_iconst (v := (0 : Int32)) hx hb dX9_rotations_71 (by decide) ?_
            exact J72 Mh x1 x2 x3 x4 x6 (0 : Int32) hf _ _ hP hS _ (lv_sub hl [0, 1, 2, 3, 4, 5] rfl)
          intro Mh x1 x2 x3 x4 x5 x6 hf H locs hP hS ls hl
          have hf : fX9_rotations_B42 N Mn Mm Mt (fX9_rotations_H28 N Mn Mm Mt n28) (fX9_rotations_H42 N Mn Mm Mt (fX9_rotations_H28 N Mn Mm Mt n28) n42) Mh x1 x2 x3 x4 x5 x6 = some (r0, Mh9) := hf
          unfold fX9_rotations_B42 at hf
          refine lv_iload hx hb dX9_rotations_42 (lv_at hl 6 rfl) ?_
          refine lv_iload hx hb dX9_rotations_44 (lv_at hl 4 rfl) ?_
          refine lv_icmp_ge (tgt := 80) hx hb dX9_rotations_46 (by decide) (fun c_2 => ?_) (fun c_2 => ?_)
          · have hf := (if_pos c_2).symm.trans hf
            exact J80 Mh x1 x2 x3 x4 x5 hf _ _ hP hS _ (lv_sub hl [0, 1, 2, 3, 4, 5] rfl)
          · have hf := (if_neg c_2).symm.trans hf
            refine lv_iload hx hb dX9_rotations_49 (lv_at hl 5 rfl) ?_
            refine lv_if_eq (tgt := 71) hx hb dX9_rotations_51 (by decide) (fun c_3 => ?_) (fun c_3 => ?_)
            · have hf := (if_pos c_3).symm.trans hf
              exact J71 Mh x1 x2 x3 x4 x6 hf _ _ hP hS _ (lv_sub hl [0, 1, 2, 3, 4, 6] rfl)
            · have hf := (if_neg c_3).symm.trans hf
              refine lv_aload_n hx hb dX9_rotations_54 rfl (lv_at hl 0 rfl) ?_
              refine lv_iload_n hx hb dX9_rotations_55 rfl (lv_at hl 1 rfl) ?_
              refine lv_iload_n hx hb dX9_rotations_56 rfl (lv_at hl 2 rfl) ?_
              refine lv_iload hx hb dX9_rotations_57 (lv_at hl 4 rfl) ?_
              refine lv_iload hx hb dX9_rotations_59 (lv_at hl 6 rfl) ?_
              obtain ⟨r61, hc, hf⟩ := bn_some hf
              try dsimp only at hf
              refine g_call0 (ws' := (w_14_15 q cI cJ cD Mh Mn Mm Mt)) (st1 := [.int r61]) hq [14, 15] [14, 15] [.inl 0, .inl 1] (va_runV (As := [.int x1, .int x2, .int x4, .int x6]) (rest := []) ⟨hx, hb, hml, hown, hts⟩ (kX9_turned l D cI cJ cD q hq N Mh Mn Mm Mt x1 x2 x4 x6 r61 hc) (cwV 4 hts gX9_rotations_X9_turned rfl rfl rfl (by decide +kernel) ⟨(Nat.le_of_ble_eq_true rfl), (Nat.le_of_ble_eq_true rfl)⟩) ⟨gP_blind, va_recv hE.1 hP (ci := 7) (q0 := 0) rfl rfl, fun U hU hW => ⟨rfl, by rw [hU]; exact hP.sub (ws' := (w_14_15 q cI cJ cD Mh Mn Mm Mt)) [0, 1] rfl, gEv.warm hW hE⟩⟩ rfl rfl hl.1 rfl (lv_room (Nat.le_of_ble_eq_true rfl)) dX9_rotations_61 ⟨Nat.zero_le _, Nat.zero_le _⟩) hP hS (gSub rfl) rfl rfl rfl rfl rfl (fun H locs hP hS => ?_)
              refine lv_if_eq (tgt := 71) hx hb dX9_rotations_64 (by decide) (fun c_4 => ?_) (fun c_4 => ?_)
              · have hf := (if_pos c_4).symm.trans hf
                exact J71 Mh x1 x2 x3 x4 x6 hf _ _ hP hS _ (lv_sub hl [0, 1, 2, 3, 4, 6] rfl)
              · have hf := (if_neg c_4).symm.trans hf
                refine lv_iconst (v := (1 : Int32)) hx hb dX9_rotations_67 (by decide) ?_
                refine lv_goto (tgt := 72) hx hb dX9_rotations_68 (by decide) ?_
                exact J72 Mh x1 x2 x3 x4 x6 (1 : Int32) hf _ _ hP hS _ (lv_sub hl [0, 1, 2, 3, 4, 6] rfl)
      intro Mh x1 x2 x3 x4 hf H locs hP hS ls hl
      have hf : fX9_rotations_B28 N Mn Mm Mt (fX9_rotations_H28 N Mn Mm Mt n28) Mh x1 x2 x3 x4 = some (r0, Mh9) := hf
      unfold fX9_rotations_B28 at hf
      refine lv_iload hx hb dX9_rotations_28 (lv_at hl 4 rfl) ?_
      refine lv_iload_n hx hb dX9_rotations_30 rfl (lv_at hl 2 rfl) ?_
      refine lv_iload_n hx hb dX9_rotations_31 rfl (lv_at hl 1 rfl) ?_
      refine lv_isub hx hb dX9_rotations_32 ?_
      refine lv_icmp_ge (tgt := 99) hx hb dX9_rotations_33 (by decide) (fun c_5 => ?_) (fun c_5 => ?_)
      · have hf := (if_pos c_5).symm.trans hf
        exact J99 Mh x3 hf _ _ hP hS _ (lv_sub hl [3] rfl)
      · have hf := (if_neg c_5).symm.trans hf
        refine lv_iconst (v := (1 : Int32)) hx hb dX9_rotations_36 (by decide) ?_
        refine lv_istore (lv' := [(5, .int (1 : Int32)), (0, .ref (q 14)), (1, .int x1), (2, .int x2), (3, .int x3), (4, .int x4)]) hx hb dX9_rotations_37 hl (by decide) rfl (fun ls hl => ?_)
        refine lv_iconst (v := (0 : Int32)) hx hb dX9_rotations_39 (by decide) ?_
        refine lv_istore (lv' := [(6, .int (0 : Int32)), (5, .int (1 : Int32)), (0, .ref (q 14)), (1, .int x1), (2, .int x2), (3, .int x3), (4, .int x4)]) hx hb dX9_rotations_40 hl (by decide) rfl (fun ls hl => ?_)
        exact K42 N Mh x1 x2 x3 x4 (1 : Int32) (0 : Int32) hf _ _ hP hS _ (lv_sub hl [2, 3, 4, 5, 6, 1, 0] rfl)
  have J15 : ∀ (Mh : Int32) (x1 : Int32) (x2 : Int32) (y1 : Int32), fX9_rotations_J15 N Mn Mm Mt Mh x1 x2 y1 = some (r0, Mh9) → ∀ (H : Heap) (locs : List Loc), va_P D vwCl (w_14_15 q cI cJ cD Mh Mn Mm Mt) H → va_S (gA q [14, 15]) s.heap H locs → ∀ ls : Array Slot, lv_has ls 7 [(0, .ref (q 14)), (1, .int x1), (2, .int x2)] → W p l e (headSpec wsX9_rotations rX9_rotations).room s m ([.ref (q 14), .int p1, .int p2] : List Value).toArray below meth c H locs 0 0 (MQ below (gQ D (some (.int r0)) (w_14_15 q cI cJ cD Mh9 Mn Mm Mt) (gA q [14, 15])) ([.ref (q 14), .int p1, .int p2] : List Value).toArray s 0 0 (gA q [14, 15])) (F0 m 15 ls [.int y1, .ref (q 14)]) := by
    intro Mh x1 x2 y1 hf H locs hP hS ls hl
    unfold fX9_rotations_J15 at hf
    obtain ⟨⟨r15, Mh15⟩, hc, hf⟩ := bn_some hf
    try dsimp only at hf
    refine g_call0 (ws' := (w_14_15 q cI cJ cD Mh15 Mn Mm Mt)) (st1 := [.int r15]) hq [14, 15] [14] [.inl 0, .inr 1] (va_runV (As := [.int y1]) (rest := []) ⟨hx, hb, hml, hown, hts⟩ (kX9_goesWell l D cI cJ cD q hq N Mh Mn Mm y1 r15 Mh15 hc) (cwV 1 hts gX9_rotations_X9_goesWell rfl rfl rfl (by decide +kernel) ⟨(Nat.le_of_ble_eq_true rfl), (Nat.le_of_ble_eq_true rfl)⟩) ⟨gP_blind, va_recv hE.1 hP (ci := 7) (q0 := 0) rfl rfl, fun U hU hW => ⟨rfl, by rw [hU]; exact hP.sub (ws' := (w_14 q cI cJ cD Mh Mn Mm)) [0] rfl, gEv.warm hW hE⟩⟩ rfl rfl hl.1 rfl (lv_room (Nat.le_of_ble_eq_true rfl)) dX9_rotations_15 ⟨Nat.zero_le _, Nat.zero_le _⟩) hP hS (gSub rfl) rfl rfl rfl rfl rfl (fun H locs hP hS => ?_)
    refine lv_if_ne (tgt := 23) hx hb dX9_rotations_18 (by decide) (fun c_6 => ?_) (fun c_6 => ?_)
    · have hf := (if_neg c_6).symm.trans hf
      refine lv_iconst (v := (0 : Int32)) hx hb dX9_rotations_23 (by decide) ?_
      refine lv_istore_n (lv' := [(3, .int (0 : Int32)), (0, .ref (q 14)), (1, .int x1), (2, .int x2)]) hx hb dX9_rotations_24 rfl hl (by decide) rfl (fun ls hl => ?_)
      refine lv_iconst (v := (0 : Int32)) hx hb dX9_rotations_25 (by decide) ?_
      refine lv_istore (lv' := [(4, .int (0 : Int32)), (3, .int (0 : Int32)), (0, .ref (q 14)), (1, .int x1), (2, .int x2)]) hx hb dX9_rotations_26 hl (by decide) rfl (fun ls hl => ?_)
      exact K28 N Mh15 x1 x2 (0 : Int32) (0 : Int32) hf _ _ hP hS _ (lv_sub hl [2, 3, 4, 1, 0] rfl)
    · have hf := (if_pos c_6).symm.trans hf
      refine lv_iconst (v := (0 : Int32)) hx hb dX9_rotations_21 (by decide) ?_
      cases hf
      exact W.iret hx hb hr (fun t ht hW => ⟨⟨rfl, by rw [ht]; exact hP⟩, hS.F ht⟩) hS.2.2 dX9_rotations_22
  unfold fX9_rotations at hf
  refine lv_aload_n hx hb dX9_rotations_0 rfl (lv_at hl 0 rfl) ?_
  refine lv_aload_n hx hb dX9_rotations_1 rfl (lv_at hl 0 rfl) ?_
  refine lv_iload_n hx hb dX9_rotations_2 rfl (lv_at hl 1 rfl) ?_
  refine lv_iload_n hx hb dX9_rotations_3 rfl (lv_at hl 2 rfl) ?_
  obtain ⟨r4, hc, hf⟩ := bn_some hf
  try dsimp only at hf
  refine g_call0 (ws' := (w_14_15 q cI cJ cD Mh Mn Mm Mt)) (st1 := [.int r4, .ref (q 14)]) hq [14, 15] [14] [.inl 0, .inr 1] (va_runV (As := [.int p1, .int p2]) (rest := [.ref (q 14)]) ⟨hx, hb, hml, hown, hts⟩ (kX9_isPart l D cI cJ cD q hq N Mh Mn Mm p1 p2 r4 hc) (cwV 2 hts gX9_rotations_X9_isPart rfl rfl rfl (by decide +kernel) ⟨(Nat.le_of_ble_eq_true rfl), (Nat.le_of_ble_eq_true rfl)⟩) ⟨gP_blind, va_recv hE.1 hP (ci := 7) (q0 := 0) rfl rfl, fun U hU hW => ⟨rfl, by rw [hU]; exact hP.sub (ws' := (w_14 q cI cJ cD Mh Mn Mm)) [0] rfl, gEv.warm hW hE⟩⟩ rfl rfl hl.1 rfl (lv_room (Nat.le_of_ble_eq_true rfl)) dX9_rotations_4 ⟨Nat.zero_le _, Nat.zero_le _⟩) hP hS (gSub rfl) rfl rfl rfl rfl rfl (fun H locs hP hS => ?_)
  refine lv_if_eq (tgt := 14) hx hb dX9_rotations_7 (by decide) (fun c_7 => ?_) (fun c_7 => ?_)
  · have hf := (if_pos c_7).symm.trans hf
    refine lv_iconst (v := (1 : Int32)) hx hb dX9_rotations_14 (by decide) ?_
    exact J15 Mh p1 p2 (1 : Int32) hf _ _ hP hS _ (lv_sub hl [0, 1, 2] rfl)
  · have hf := (if_neg c_7).symm.trans hf
    refine lv_iconst (v := (0 : Int32)) hx hb dX9_rotations_10 (by decide) ?_
    refine lv_goto (tgt := 15) hx hb dX9_rotations_11 (by decide) ?_
    exact J15 Mh p1 p2 (0 : Int32) hf _ _ hP hS _ (lv_sub hl [0, 1, 2] rfl)
set_option maxHeartbeats 4000000 in
set_option maxRecDepth 100000 in
theorem kX9_isNecklace (l : Launch) (D : va_G) (cI cJ cD : ClassId) (q : Nat → Nat) (hq : gInj q) (N : Nat) (Mh : Int32) (Mn : Int32) (Mm : Int32) (Mt : (Nat → Int32)) (p1 : Int32) (p2 : Int32) (r0 : Int32) (Mh9 : Int32) (hf : fX9_isNecklace N Mh Mn Mm Mt p1 p2 = some (r0, Mh9)) : Met l yX9_isNecklace wsX9_isNecklace rX9_isNecklace (gP D cI cJ cD [.ref (q 14), .int p1, .int p2] (w_14_15 q cI cJ cD Mh Mn Mm Mt)) (gQ D (some (.int r0)) (w_14_15 q cI cJ cD Mh9 Mn Mm Mt) (gA q [14, 15])) 0 0 (gA q [14, 15]) := by
  refine Met.ofW (cc := cX9_isNecklace) (maxL := 5) (ret := (some .boolean)) (by decide +kernel) rfl ?_
  intro p e s m args below meth c s₁ B hml hv
  obtain ⟨rfl, hP, hE⟩ := hv
  have hx := B.exec
  have hb := B.bytes
  have hr := B.returns
  have hts := atoms_spec (ws := wsX9_isNecklace) B.pre
  have hown : s.vm.findClass RX9 = some m.cls := findClass_of_methodNamed B.named
  have hlocks := B.notSynchronized
  have hS : va_S (gA q [14, 15]) s.heap s.heap [] := va_S.rf
  have hl := lv_entry ([.ref (q 14), .int p1, .int p2]) (n := 5) (Nat.le_of_ble_eq_true rfl)
  rw [lg_entry_eq]
  generalize (lg_sl ([.ref (q 14), .int p1, .int p2]) ++ List.replicate (5 - (lg_sl ([.ref (q 14), .int p1, .int p2])).length) Slot.unset).toArray = ls at hl ⊢
  have hl : lv_has ls 5 [(0, .ref (q 14)), (1, .int p1), (2, .int p2)] := hl
  have J64 : ∀ (Mh : Int32) (x3 : Int32), fX9_isNecklace_J64 N Mn Mm Mt Mh x3 = some (r0, Mh9) → ∀ (H : Heap) (locs : List Loc), va_P D vwCl (w_14_15 q cI cJ cD Mh Mn Mm Mt) H → va_S (gA q [14, 15]) s.heap H locs → ∀ ls : Array Slot, lv_has ls 5 [(3, .int x3)] → W p l e (headSpec wsX9_isNecklace rX9_isNecklace).room s m ([.ref (q 14), .int p1, .int p2] : List Value).toArray below meth c H locs 0 0 (MQ below (gQ D (some (.int r0)) (w_14_15 q cI cJ cD Mh9 Mn Mm Mt) (gA q [14, 15])) ([.ref (q 14), .int p1, .int p2] : List Value).toArray s 0 0 (gA q [14, 15])) (F0 m 64 ls []) := by
    intro Mh x3 hf H locs hP hS ls hl
    unfold fX9_isNecklace_J64 at hf
    refine lv_iload_n hx hb dX9_isNecklace_64 rfl (lv_at hl 0 rfl) ?_
    obtain ⟨g_1, hf⟩ := gd_some hf
    cases hf
    exact W.zret (ty := .boolean) hx hb hr (isB_nar g_1) (fun t ht hW => ⟨⟨rfl, by rw [ht]; exact hP⟩, hS.F ht⟩) hS.2.2 dX9_isNecklace_65
  have K28 : ∀ (n28 : Nat) (Mh : Int32) (x1 : Int32) (x2 : Int32) (x3 : Int32) (x4 : Int32), fX9_isNecklace_H28 N Mn Mm Mt n28 Mh x1 x2 x3 x4 = some (r0, Mh9) → ∀ (H : Heap) (locs : List Loc), va_P D vwCl (w_14_15 q cI cJ cD Mh Mn Mm Mt) H → va_S (gA q [14, 15]) s.heap H locs → ∀ ls : Array Slot, lv_has ls 5 [(0, .ref (q 14)), (1, .int x1), (2, .int x2), (3, .int x3), (4, .int x4)] → W p l e (headSpec wsX9_isNecklace rX9_isNecklace).room s m ([.ref (q 14), .int p1, .int p2] : List Value).toArray below meth c H locs 0 0 (MQ below (gQ D (some (.int r0)) (w_14_15 q cI cJ cD Mh9 Mn Mm Mt) (gA q [14, 15])) ([.ref (q 14), .int p1, .int p2] : List Value).toArray s 0 0 (gA q [14, 15])) (F0 m 28 ls []) := by
    intro n28
    induction n28 with
    | zero =>
      intro Mh x1 x2 x3 x4 hf
      exact nomatch (show (none : Option (Int32 × Int32)) = some (r0, Mh9) from hf)
    | succ n28 ih28 =>
      have J57 : ∀ (Mh : Int32) (x1 : Int32) (x2 : Int32) (x4 : Int32) (y0 : Int32), fX9_isNecklace_J57 N Mn Mm Mt (fX9_isNecklace_H28 N Mn Mm Mt n28) Mh x1 x2 x4 y0 = some (r0, Mh9) → ∀ (H : Heap) (locs : List Loc), va_P D vwCl (w_14_15 q cI cJ cD Mh Mn Mm Mt) H → va_S (gA q [14, 15]) s.heap H locs → ∀ ls : Array Slot, lv_has ls 5 [(0, .ref (q 14)), (1, .int x1), (2, .int x2), (4, .int x4)] → W p l e (headSpec wsX9_isNecklace rX9_isNecklace).room s m ([.ref (q 14), .int p1, .int p2] : List Value).toArray below meth c H locs 0 0 (MQ below (gQ D (some (.int r0)) (w_14_15 q cI cJ cD Mh9 Mn Mm Mt) (gA q [14, 15])) ([.ref (q 14), .int p1, .int p2] : List Value).toArray s 0 0 (gA q [14, 15])) (F0 m 57 ls [.int y0]) := by
        intro Mh x1 x2 x4 y0 hf H locs hP hS ls hl
        unfold fX9_isNecklace_J57 at hf
        refine lv_istore_n (lv' := [(3, .int y0), (0, .ref (q 14)), (1, .int x1), (2, .int x2), (4, .int x4)]) hx hb dX9_isNecklace_57 rfl hl (by decide) rfl (fun ls hl => ?_)
        refine lv_iinc (v := (x4 + 1)) (lv' := [(4, .int (x4 + 1)), (3, .int y0), (0, .ref (q 14)), (1, .int x1), (2, .int x2)]) hx hb dX9_isNecklace_58 hl (k := 4) rfl rfl (by decide) rfl (fun ls hl => ?_)
        refine lv_goto (tgt := 28) hx hb dX9_isNecklace_61 (by decide) ?_
        exact ih28 Mh x1 x2 y0 (x4 + 1) hf _ _ hP hS _ (lv_sub hl [2, 3, 4, 1, 0] rfl)
      have J56 : ∀ (Mh : Int32) (x1 : Int32) (x2 : Int32) (x4 : Int32), fX9_isNecklace_J56 N Mn Mm Mt (fX9_isNecklace_H28 N Mn Mm Mt n28) Mh x1 x2 x4 = some (r0, Mh9) → ∀ (H : Heap) (locs : List Loc), va_P D vwCl (w_14_15 q cI cJ cD Mh Mn Mm Mt) H → va_S (gA q [14, 15]) s.heap H locs → ∀ ls : Array Slot, lv_has ls 5 [(0, .ref (q 14)), (1, .int x1), (2, .int x2), (4, .int x4)] → W p l e (headSpec wsX9_isNecklace rX9_isNecklace).room s m ([.ref (q 14), .int p1, .int p2] : List Value).toArray below meth c H locs 0 0 (MQ below (gQ D (some (.int r0)) (w_14_15 q cI cJ cD Mh9 Mn Mm Mt) (gA q [14, 15])) ([.ref (q 14), .int p1, .int p2] : List Value).toArray s 0 0 (gA q [14, 15])) (F0 m 56 ls []) := by
        intro Mh x1 x2 x4 hf H locs hP hS ls hl
        unfold fX9_isNecklace_J56 at hf
        refine lv_iconst (v := (0 : Int32)) hx hb dX9_isNecklace_56 (by decide) ?_
        exact J57 Mh x1 x2 x4 (0 : Int32) hf _ _ hP hS _ (lv_sub hl [0, 1, 2, 3] rfl)
      intro Mh x1 x2 x3 x4 hf H locs hP hS ls hl
      have hf : fX9_isNecklace_B28 N Mn Mm Mt (fX9_isNecklace_H28 N Mn Mm Mt n28) Mh x1 x2 x3 x4 = some (r0, Mh9) := hf
      unfold fX9_isNecklace_B28 at hf
      refine lv_iload hx hb dX9_isNecklace_28 (lv_at hl 4 rfl) ?_
      refine lv_iload_n hx hb dX9_isNecklace_30 rfl (lv_at hl 2 rfl) ?_
      refine lv_iload_n hx hb dX9_isNecklace_31 rfl (lv_at hl 1 rfl) ?_
      refine lv_isub hx hb dX9_isNecklace_32 ?_
      refine lv_icmp_ge (tgt := 64) hx hb dX9_isNecklace_33 (by decide) (fun c_2 => ?_) (fun c_2 => ?_)
      · have hf := (if_pos c_2).symm.trans hf
        exact J64 Mh x3 hf _ _ hP hS _ (lv_sub hl [3] rfl)
      · have hf := (if_neg c_2).symm.trans hf
        refine lv_iload_n hx hb dX9_isNecklace_36 rfl (lv_at hl 3 rfl) ?_
        refine lv_if_eq (tgt := 56) hx hb dX9_isNecklace_37 (by decide) (fun c_3 => ?_) (fun c_3 => ?_)
        · have hf := (if_pos c_3).symm.trans hf
          exact J56 Mh x1 x2 x4 hf _ _ hP hS _ (lv_sub hl [0, 1, 2, 4] rfl)
        · have hf := (if_neg c_3).symm.trans hf
          refine lv_aload_n hx hb dX9_isNecklace_40 rfl (lv_at hl 0 rfl) ?_
          refine lv_iload_n hx hb dX9_isNecklace_41 rfl (lv_at hl 1 rfl) ?_
          refine lv_iload_n hx hb dX9_isNecklace_42 rfl (lv_at hl 2 rfl) ?_
          refine lv_iconst (v := (0 : Int32)) hx hb dX9_isNecklace_43 (by decide) ?_
          refine lv_iload hx hb dX9_isNecklace_44 (lv_at hl 4 rfl) ?_
          obtain ⟨r46, hc, hf⟩ := bn_some hf
          try dsimp only at hf
          refine g_call0 (ws' := (w_14_15 q cI cJ cD Mh Mn Mm Mt)) (st1 := [.int r46]) hq [14, 15] [14, 15] [.inl 0, .inl 1] (va_runV (As := [.int x1, .int x2, .int (0 : Int32), .int x4]) (rest := []) ⟨hx, hb, hml, hown, hts⟩ (kX9_turned l D cI cJ cD q hq N Mh Mn Mm Mt x1 x2 (0 : Int32) x4 r46 hc) (cwV 4 hts gX9_isNecklace_X9_turned rfl rfl rfl (by decide +kernel) ⟨(Nat.le_of_ble_eq_true rfl), (Nat.le_of_ble_eq_true rfl)⟩) ⟨gP_blind, va_recv hE.1 hP (ci := 7) (q0 := 0) rfl rfl, fun U hU hW => ⟨rfl, by rw [hU]; exact hP.sub (ws' := (w_14_15 q cI cJ cD Mh Mn Mm Mt)) [0, 1] rfl, gEv.warm hW hE⟩⟩ rfl rfl hl.1 rfl (lv_room (Nat.le_of_ble_eq_true rfl)) dX9_isNecklace_46 ⟨Nat.zero_le _, Nat.zero_le _⟩) hP hS (gSub rfl) rfl rfl rfl rfl rfl (fun H locs hP hS => ?_)
          refine lv_if_gt (tgt := 56) hx hb dX9_isNecklace_49 (by decide) (fun c_4 => ?_) (fun c_4 => ?_)
          · have hf := (if_pos c_4).symm.trans hf
            exact J56 Mh x1 x2 x4 hf _ _ hP hS _ (lv_sub hl [0, 1, 2, 4] rfl)
          · have hf := (if_neg c_4).symm.trans hf
            refine lv_iconst (v := (1 : Int32)) hx hb dX9_isNecklace_52 (by decide) ?_
            refine lv_goto (tgt := 57) hx hb dX9_isNecklace_53 (by decide) ?_
            exact J57 Mh x1 x2 x4 (1 : Int32) hf _ _ hP hS _ (lv_sub hl [0, 1, 2, 4] rfl)
  have J15 : ∀ (Mh : Int32) (x1 : Int32) (x2 : Int32) (y1 : Int32), fX9_isNecklace_J15 N Mn Mm Mt Mh x1 x2 y1 = some (r0, Mh9) → ∀ (H : Heap) (locs : List Loc), va_P D vwCl (w_14_15 q cI cJ cD Mh Mn Mm Mt) H → va_S (gA q [14, 15]) s.heap H locs → ∀ ls : Array Slot, lv_has ls 5 [(0, .ref (q 14)), (1, .int x1), (2, .int x2)] → W p l e (headSpec wsX9_isNecklace rX9_isNecklace).room s m ([.ref (q 14), .int p1, .int p2] : List Value).toArray below meth c H locs 0 0 (MQ below (gQ D (some (.int r0)) (w_14_15 q cI cJ cD Mh9 Mn Mm Mt) (gA q [14, 15])) ([.ref (q 14), .int p1, .int p2] : List Value).toArray s 0 0 (gA q [14, 15])) (F0 m 15 ls [.int y1, .ref (q 14)]) := by
    intro Mh x1 x2 y1 hf H locs hP hS ls hl
    unfold fX9_isNecklace_J15 at hf
    obtain ⟨⟨r15, Mh15⟩, hc, hf⟩ := bn_some hf
    try dsimp only at hf
    refine g_call0 (ws' := (w_14_15 q cI cJ cD Mh15 Mn Mm Mt)) (st1 := [.int r15]) hq [14, 15] [14] [.inl 0, .inr 1] (va_runV (As := [.int y1]) (rest := []) ⟨hx, hb, hml, hown, hts⟩ (kX9_goesWell l D cI cJ cD q hq N Mh Mn Mm y1 r15 Mh15 hc) (cwV 1 hts gX9_isNecklace_X9_goesWell rfl rfl rfl (by decide +kernel) ⟨(Nat.le_of_ble_eq_true rfl), (Nat.le_of_ble_eq_true rfl)⟩) ⟨gP_blind, va_recv hE.1 hP (ci := 7) (q0 := 0) rfl rfl, fun U hU hW => ⟨rfl, by rw [hU]; exact hP.sub (ws' := (w_14 q cI cJ cD Mh Mn Mm)) [0] rfl, gEv.warm hW hE⟩⟩ rfl rfl hl.1 rfl (lv_room (Nat.le_of_ble_eq_true rfl)) dX9_isNecklace_15 ⟨Nat.zero_le _, Nat.zero_le _⟩) hP hS (gSub rfl) rfl rfl rfl rfl rfl (fun H locs hP hS => ?_)
    refine lv_if_ne (tgt := 23) hx hb dX9_isNecklace_18 (by decide) (fun c_5 => ?_) (fun c_5 => ?_)
    · have hf := (if_neg c_5).symm.trans hf
      refine lv_iconst (v := (1 : Int32)) hx hb dX9_isNecklace_23 (by decide) ?_
      refine lv_istore_n (lv' := [(3, .int (1 : Int32)), (0, .ref (q 14)), (1, .int x1), (2, .int x2)]) hx hb dX9_isNecklace_24 rfl hl (by decide) rfl (fun ls hl => ?_)
      refine lv_iconst (v := (1 : Int32)) hx hb dX9_isNecklace_25 (by decide) ?_
      refine lv_istore (lv' := [(4, .int (1 : Int32)), (3, .int (1 : Int32)), (0, .ref (q 14)), (1, .int x1), (2, .int x2)]) hx hb dX9_isNecklace_26 hl (by decide) rfl (fun ls hl => ?_)
      exact K28 N Mh15 x1 x2 (1 : Int32) (1 : Int32) hf _ _ hP hS _ (lv_sub hl [2, 3, 4, 1, 0] rfl)
    · have hf := (if_pos c_5).symm.trans hf
      refine lv_iconst (v := (0 : Int32)) hx hb dX9_isNecklace_21 (by decide) ?_
      obtain ⟨g_6, hf⟩ := gd_some hf
      cases hf
      exact W.zret (ty := .boolean) hx hb hr (isB_nar g_6) (fun t ht hW => ⟨⟨rfl, by rw [ht]; exact hP⟩, hS.F ht⟩) hS.2.2 dX9_isNecklace_22
  unfold fX9_isNecklace at hf
  refine lv_aload_n hx hb dX9_isNecklace_0 rfl (lv_at hl 0 rfl) ?_
  refine lv_aload_n hx hb dX9_isNecklace_1 rfl (lv_at hl 0 rfl) ?_
  refine lv_iload_n hx hb dX9_isNecklace_2 rfl (lv_at hl 1 rfl) ?_
  refine lv_iload_n hx hb dX9_isNecklace_3 rfl (lv_at hl 2 rfl) ?_
  obtain ⟨r4, hc, hf⟩ := bn_some hf
  try dsimp only at hf
  refine g_call0 (ws' := (w_14_15 q cI cJ cD Mh Mn Mm Mt)) (st1 := [.int r4, .ref (q 14)]) hq [14, 15] [14] [.inl 0, .inr 1] (va_runV (As := [.int p1, .int p2]) (rest := [.ref (q 14)]) ⟨hx, hb, hml, hown, hts⟩ (kX9_isPart l D cI cJ cD q hq N Mh Mn Mm p1 p2 r4 hc) (cwV 2 hts gX9_isNecklace_X9_isPart rfl rfl rfl (by decide +kernel) ⟨(Nat.le_of_ble_eq_true rfl), (Nat.le_of_ble_eq_true rfl)⟩) ⟨gP_blind, va_recv hE.1 hP (ci := 7) (q0 := 0) rfl rfl, fun U hU hW => ⟨rfl, by rw [hU]; exact hP.sub (ws' := (w_14 q cI cJ cD Mh Mn Mm)) [0] rfl, gEv.warm hW hE⟩⟩ rfl rfl hl.1 rfl (lv_room (Nat.le_of_ble_eq_true rfl)) dX9_isNecklace_4 ⟨Nat.zero_le _, Nat.zero_le _⟩) hP hS (gSub rfl) rfl rfl rfl rfl rfl (fun H locs hP hS => ?_)
  refine lv_if_eq (tgt := 14) hx hb dX9_isNecklace_7 (by decide) (fun c_7 => ?_) (fun c_7 => ?_)
  · have hf := (if_pos c_7).symm.trans hf
    refine lv_iconst (v := (1 : Int32)) hx hb dX9_isNecklace_14 (by decide) ?_
    exact J15 Mh p1 p2 (1 : Int32) hf _ _ hP hS _ (lv_sub hl [0, 1, 2] rfl)
  · have hf := (if_neg c_7).symm.trans hf
    refine lv_iconst (v := (0 : Int32)) hx hb dX9_isNecklace_10 (by decide) ?_
    refine lv_goto (tgt := 15) hx hb dX9_isNecklace_11 (by decide) ?_
    exact J15 Mh p1 p2 (0 : Int32) hf _ _ hP hS _ (lv_sub hl [0, 1, 2] rfl)
set_option maxHeartbeats 4000000 in
set_option maxRecDepth 100000 in
theorem kX9_leastPeriod (l : Launch) (D : va_G) (cI cJ cD : ClassId) (q : Nat → Nat) (hq : gInj q) (N : Nat) (Mh : Int32) (Mn : Int32) (Mm : Int32) (Mt : (Nat → Int32)) (p1 : Int32) (p2 : Int32) (r0 : Int32) (hf : fX9_leastPeriod N Mh Mn Mm Mt p1 p2 = some r0) : Met l yX9_leastPeriod wsX9_leastPeriod rX9_leastPeriod (gP D cI cJ cD [.ref (q 14), .int p1, .int p2] (w_14_15 q cI cJ cD Mh Mn Mm Mt)) (gQ D (some (.int r0)) (w_14_15 q cI cJ cD Mh Mn Mm Mt) (gA q [14, 15])) 0 0 (gA q [14, 15]) := by
  refine Met.ofW (cc := cX9_leastPeriod) (maxL := 4) (ret := (some .int)) (by decide +kernel) rfl ?_
  intro p e s m args below meth c s₁ B hml hv
  obtain ⟨rfl, hP, hE⟩ := hv
  have hx := B.exec
  have hb := B.bytes
  have hr := B.returns
  have hts := atoms_spec (ws := wsX9_leastPeriod) B.pre
  have hown : s.vm.findClass RX9 = some m.cls := findClass_of_methodNamed B.named
  have hlocks := B.notSynchronized
  have hS : va_S (gA q [14, 15]) s.heap s.heap [] := va_S.rf
  have hl := lv_entry ([.ref (q 14), .int p1, .int p2]) (n := 4) (Nat.le_of_ble_eq_true rfl)
  rw [lg_entry_eq]
  generalize (lg_sl ([.ref (q 14), .int p1, .int p2]) ++ List.replicate (4 - (lg_sl ([.ref (q 14), .int p1, .int p2])).length) Slot.unset).toArray = ls at hl ⊢
  have hl : lv_has ls 4 [(0, .ref (q 14)), (1, .int p1), (2, .int p2)] := hl
  have J18 : ∀ (x3 : Int32), fX9_leastPeriod_J18 N Mh Mn Mm Mt x3 = some r0 → ∀ (H : Heap) (locs : List Loc), va_P D vwCl (w_14_15 q cI cJ cD Mh Mn Mm Mt) H → va_S (gA q [14, 15]) s.heap H locs → ∀ ls : Array Slot, lv_has ls 4 [(3, .int x3)] → W p l e (headSpec wsX9_leastPeriod rX9_leastPeriod).room s m ([.ref (q 14), .int p1, .int p2] : List Value).toArray below meth c H locs 0 0 (MQ below (gQ D (some (.int r0)) (w_14_15 q cI cJ cD Mh Mn Mm Mt) (gA q [14, 15])) ([.ref (q 14), .int p1, .int p2] : List Value).toArray s 0 0 (gA q [14, 15])) (F0 m 18 ls []) := by
    intro x3 hf H locs hP hS ls hl
    unfold fX9_leastPeriod_J18 at hf
    refine lv_iload_n hx hb dX9_leastPeriod_18 rfl (lv_at hl 0 rfl) ?_
    cases hf
    exact W.iret hx hb hr (fun t ht hW => ⟨⟨rfl, by rw [ht]; exact hP⟩, hS.F ht⟩) hS.2.2 dX9_leastPeriod_19
  have K2 : ∀ (n2 : Nat) (x1 : Int32) (x2 : Int32) (x3 : Int32), fX9_leastPeriod_H2 N Mh Mn Mm Mt n2 x1 x2 x3 = some r0 → ∀ (H : Heap) (locs : List Loc), va_P D vwCl (w_14_15 q cI cJ cD Mh Mn Mm Mt) H → va_S (gA q [14, 15]) s.heap H locs → ∀ ls : Array Slot, lv_has ls 4 [(0, .ref (q 14)), (1, .int x1), (2, .int x2), (3, .int x3)] → W p l e (headSpec wsX9_leastPeriod rX9_leastPeriod).room s m ([.ref (q 14), .int p1, .int p2] : List Value).toArray below meth c H locs 0 0 (MQ below (gQ D (some (.int r0)) (w_14_15 q cI cJ cD Mh Mn Mm Mt) (gA q [14, 15])) ([.ref (q 14), .int p1, .int p2] : List Value).toArray s 0 0 (gA q [14, 15])) (F0 m 2 ls []) := by
    intro n2
    induction n2 with
    | zero =>
      intro x1 x2 x3 hf
      exact nomatch (show (none : Option Int32) = some r0 from hf)
    | succ n2 ih2 =>
      intro x1 x2 x3 hf H locs hP hS ls hl
      have hf : fX9_leastPeriod_B2 N Mh Mn Mm Mt (fX9_leastPeriod_H2 N Mh Mn Mm Mt n2) x1 x2 x3 = some r0 := hf
      unfold fX9_leastPeriod_B2 at hf
      refine lv_aload_n hx hb dX9_leastPeriod_2 rfl (lv_at hl 0 rfl) ?_
      refine lv_iload_n hx hb dX9_leastPeriod_3 rfl (lv_at hl 1 rfl) ?_
      refine lv_iload_n hx hb dX9_leastPeriod_4 rfl (lv_at hl 2 rfl) ?_
      refine lv_iload_n hx hb dX9_leastPeriod_5 rfl (lv_at hl 3 rfl) ?_
      obtain ⟨r6, hc, hf⟩ := bn_some hf
      try dsimp only at hf
      refine g_call0 (ws' := (w_14_15 q cI cJ cD Mh Mn Mm Mt)) (st1 := [.int r6]) hq [14, 15] [14, 15] [.inl 0, .inl 1] (va_runV (As := [.int x1, .int x2, .int x3]) (rest := []) ⟨hx, hb, hml, hown, hts⟩ (kX9_hasPeriod l D cI cJ cD q hq N Mh Mn Mm Mt x1 x2 x3 r6 hc) (cwV 3 hts gX9_leastPeriod_X9_hasPeriod rfl rfl rfl (by decide +kernel) ⟨(Nat.le_of_ble_eq_true rfl), (Nat.le_of_ble_eq_true rfl)⟩) ⟨gP_blind, va_recv hE.1 hP (ci := 7) (q0 := 0) rfl rfl, fun U hU hW => ⟨rfl, by rw [hU]; exact hP.sub (ws' := (w_14_15 q cI cJ cD Mh Mn Mm Mt)) [0, 1] rfl, gEv.warm hW hE⟩⟩ rfl rfl hl.1 rfl (lv_room (Nat.le_of_ble_eq_true rfl)) dX9_leastPeriod_6 ⟨Nat.zero_le _, Nat.zero_le _⟩) hP hS (gSub rfl) rfl rfl rfl rfl rfl (fun H locs hP hS => ?_)
      refine lv_if_ne (tgt := 18) hx hb dX9_leastPeriod_9 (by decide) (fun c_1 => ?_) (fun c_1 => ?_)
      · have hf := (if_neg c_1).symm.trans hf
        exact J18 x3 hf _ _ hP hS _ (lv_sub hl [3] rfl)
      · have hf := (if_pos c_1).symm.trans hf
        refine lv_iinc (v := (x3 + 1)) (lv' := [(3, .int (x3 + 1)), (0, .ref (q 14)), (1, .int x1), (2, .int x2)]) hx hb dX9_leastPeriod_12 hl (k := 3) rfl rfl (by decide) rfl (fun ls hl => ?_)
        refine lv_goto (tgt := 2) hx hb dX9_leastPeriod_15 (by decide) ?_
        exact ih2 x1 x2 (x3 + 1) hf _ _ hP hS _ (lv_sub hl [1, 2, 3, 0] rfl)
  unfold fX9_leastPeriod at hf
  refine lv_iconst (v := (1 : Int32)) hx hb dX9_leastPeriod_0 (by decide) ?_
  refine lv_istore_n (lv' := [(3, .int (1 : Int32)), (0, .ref (q 14)), (1, .int p1), (2, .int p2)]) hx hb dX9_leastPeriod_1 rfl hl (by decide) rfl (fun ls hl => ?_)
  exact K2 N p1 p2 (1 : Int32) hf _ _ hP hS _ (lv_sub hl [1, 2, 3, 0] rfl)
set_option maxHeartbeats 4000000 in
set_option maxRecDepth 100000 in
theorem kX9_period (l : Launch) (D : va_G) (cI cJ cD : ClassId) (q : Nat → Nat) (hq : gInj q) (N : Nat) (Mh : Int32) (Mn : Int32) (Mm : Int32) (Mt : (Nat → Int32)) (p1 : Int32) (p2 : Int32) (r0 : Int32) (Mh9 : Int32) (hf : fX9_period N Mh Mn Mm Mt p1 p2 = some (r0, Mh9)) : Met l yX9_period wsX9_period rX9_period (gP D cI cJ cD [.ref (q 14), .int p1, .int p2] (w_14_15 q cI cJ cD Mh Mn Mm Mt)) (gQ D (some (.int r0)) (w_14_15 q cI cJ cD Mh9 Mn Mm Mt) (gA q [14, 15])) 0 0 (gA q [14, 15]) := by
  refine Met.ofW (cc := cX9_period) (maxL := 3) (ret := (some .int)) (by decide +kernel) rfl ?_
  intro p e s m args below meth c s₁ B hml hv
  obtain ⟨rfl, hP, hE⟩ := hv
  have hx := B.exec
  have hb := B.bytes
  have hr := B.returns
  have hts := atoms_spec (ws := wsX9_period) B.pre
  have hown : s.vm.findClass RX9 = some m.cls := findClass_of_methodNamed B.named
  have hlocks := B.notSynchronized
  have hS : va_S (gA q [14, 15]) s.heap s.heap [] := va_S.rf
  have hl := lv_entry ([.ref (q 14), .int p1, .int p2]) (n := 3) (Nat.le_of_ble_eq_true rfl)
  rw [lg_entry_eq]
  generalize (lg_sl ([.ref (q 14), .int p1, .int p2]) ++ List.replicate (3 - (lg_sl ([.ref (q 14), .int p1, .int p2])).length) Slot.unset).toArray = ls at hl ⊢
  have hl : lv_has ls 3 [(0, .ref (q 14)), (1, .int p1), (2, .int p2)] := hl
  have J31 : ∀ (Mh : Int32) (y0 : Int32), fX9_period_J31 N Mn Mm Mt Mh y0 = some (r0, Mh9) → ∀ (H : Heap) (locs : List Loc), va_P D vwCl (w_14_15 q cI cJ cD Mh Mn Mm Mt) H → va_S (gA q [14, 15]) s.heap H locs → ∀ ls : Array Slot, lv_has ls 3 [] → W p l e (headSpec wsX9_period rX9_period).room s m ([.ref (q 14), .int p1, .int p2] : List Value).toArray below meth c H locs 0 0 (MQ below (gQ D (some (.int r0)) (w_14_15 q cI cJ cD Mh9 Mn Mm Mt) (gA q [14, 15])) ([.ref (q 14), .int p1, .int p2] : List Value).toArray s 0 0 (gA q [14, 15])) (F0 m 31 ls [.int y0]) := by
    intro Mh y0 hf H locs hP hS ls hl
    unfold fX9_period_J31 at hf
    cases hf
    exact W.iret hx hb hr (fun t ht hW => ⟨⟨rfl, by rw [ht]; exact hP⟩, hS.F ht⟩) hS.2.2 dX9_period_31
  have J15 : ∀ (Mh : Int32) (x1 : Int32) (x2 : Int32) (y1 : Int32), fX9_period_J15 N Mn Mm Mt Mh x1 x2 y1 = some (r0, Mh9) → ∀ (H : Heap) (locs : List Loc), va_P D vwCl (w_14_15 q cI cJ cD Mh Mn Mm Mt) H → va_S (gA q [14, 15]) s.heap H locs → ∀ ls : Array Slot, lv_has ls 3 [(0, .ref (q 14)), (1, .int x1), (2, .int x2)] → W p l e (headSpec wsX9_period rX9_period).room s m ([.ref (q 14), .int p1, .int p2] : List Value).toArray below meth c H locs 0 0 (MQ below (gQ D (some (.int r0)) (w_14_15 q cI cJ cD Mh9 Mn Mm Mt) (gA q [14, 15])) ([.ref (q 14), .int p1, .int p2] : List Value).toArray s 0 0 (gA q [14, 15])) (F0 m 15 ls [.int y1, .ref (q 14)]) := by
    intro Mh x1 x2 y1 hf H locs hP hS ls hl
    unfold fX9_period_J15 at hf
    obtain ⟨⟨r15, Mh15⟩, hc, hf⟩ := bn_some hf
    try dsimp only at hf
    refine g_call0 (ws' := (w_14_15 q cI cJ cD Mh15 Mn Mm Mt)) (st1 := [.int r15]) hq [14, 15] [14] [.inl 0, .inr 1] (va_runV (As := [.int y1]) (rest := []) ⟨hx, hb, hml, hown, hts⟩ (kX9_goesWell l D cI cJ cD q hq N Mh Mn Mm y1 r15 Mh15 hc) (cwV 1 hts gX9_period_X9_goesWell rfl rfl rfl (by decide +kernel) ⟨(Nat.le_of_ble_eq_true rfl), (Nat.le_of_ble_eq_true rfl)⟩) ⟨gP_blind, va_recv hE.1 hP (ci := 7) (q0 := 0) rfl rfl, fun U hU hW => ⟨rfl, by rw [hU]; exact hP.sub (ws' := (w_14 q cI cJ cD Mh Mn Mm)) [0] rfl, gEv.warm hW hE⟩⟩ rfl rfl hl.1 rfl (lv_room (Nat.le_of_ble_eq_true rfl)) dX9_period_15 ⟨Nat.zero_le _, Nat.zero_le _⟩) hP hS (gSub rfl) rfl rfl rfl rfl rfl (fun H locs hP hS => ?_)
    refine lv_if_eq (tgt := 30) hx hb dX9_period_18 (by decide) (fun c_1 => ?_) (fun c_1 => ?_)
    · have hf := (if_pos c_1).symm.trans hf
      refine lv_iconst (v := (0 : Int32)) hx hb dX9_period_30 (by decide) ?_
      exact J31 Mh15 (0 : Int32) hf _ _ hP hS _ (lv_sub hl [] rfl)
    · have hf := (if_neg c_1).symm.trans hf
      refine lv_aload_n hx hb dX9_period_21 rfl (lv_at hl 0 rfl) ?_
      refine lv_iload_n hx hb dX9_period_22 rfl (lv_at hl 1 rfl) ?_
      refine lv_iload_n hx hb dX9_period_23 rfl (lv_at hl 2 rfl) ?_
      obtain ⟨r24, hc, hf⟩ := bn_some hf
      try dsimp only at hf
      refine g_call0 (ws' := (w_14_15 q cI cJ cD Mh15 Mn Mm Mt)) (st1 := [.int r24]) hq [14, 15] [14, 15] [.inl 0, .inl 1] (va_runV (As := [.int x1, .int x2]) (rest := []) ⟨hx, hb, hml, hown, hts⟩ (kX9_leastPeriod l D cI cJ cD q hq N Mh15 Mn Mm Mt x1 x2 r24 hc) (cwV 2 hts gX9_period_X9_leastPeriod rfl rfl rfl (by decide +kernel) ⟨(Nat.le_of_ble_eq_true rfl), (Nat.le_of_ble_eq_true rfl)⟩) ⟨gP_blind, va_recv hE.1 hP (ci := 7) (q0 := 0) rfl rfl, fun U hU hW => ⟨rfl, by rw [hU]; exact hP.sub (ws' := (w_14_15 q cI cJ cD Mh15 Mn Mm Mt)) [0, 1] rfl, gEv.warm hW hE⟩⟩ rfl rfl hl.1 rfl (lv_room (Nat.le_of_ble_eq_true rfl)) dX9_period_24 ⟨Nat.zero_le _, Nat.zero_le _⟩) hP hS (gSub rfl) rfl rfl rfl rfl rfl (fun H locs hP hS => ?_)
      refine lv_goto (tgt := 31) hx hb dX9_period_27 (by decide) ?_
      exact J31 Mh15 r24 hf _ _ hP hS _ (lv_sub hl [] rfl)
  unfold fX9_period at hf
  refine lv_aload_n hx hb dX9_period_0 rfl (lv_at hl 0 rfl) ?_
  refine lv_aload_n hx hb dX9_period_1 rfl (lv_at hl 0 rfl) ?_
  refine lv_iload_n hx hb dX9_period_2 rfl (lv_at hl 1 rfl) ?_
  refine lv_iload_n hx hb dX9_period_3 rfl (lv_at hl 2 rfl) ?_
  obtain ⟨r4, hc, hf⟩ := bn_some hf
  try dsimp only at hf
  refine g_call0 (ws' := (w_14_15 q cI cJ cD Mh Mn Mm Mt)) (st1 := [.int r4, .ref (q 14)]) hq [14, 15] [14] [.inl 0, .inr 1] (va_runV (As := [.int p1, .int p2]) (rest := [.ref (q 14)]) ⟨hx, hb, hml, hown, hts⟩ (kX9_isPart l D cI cJ cD q hq N Mh Mn Mm p1 p2 r4 hc) (cwV 2 hts gX9_period_X9_isPart rfl rfl rfl (by decide +kernel) ⟨(Nat.le_of_ble_eq_true rfl), (Nat.le_of_ble_eq_true rfl)⟩) ⟨gP_blind, va_recv hE.1 hP (ci := 7) (q0 := 0) rfl rfl, fun U hU hW => ⟨rfl, by rw [hU]; exact hP.sub (ws' := (w_14 q cI cJ cD Mh Mn Mm)) [0] rfl, gEv.warm hW hE⟩⟩ rfl rfl hl.1 rfl (lv_room (Nat.le_of_ble_eq_true rfl)) dX9_period_4 ⟨Nat.zero_le _, Nat.zero_le _⟩) hP hS (gSub rfl) rfl rfl rfl rfl rfl (fun H locs hP hS => ?_)
  refine lv_if_eq (tgt := 14) hx hb dX9_period_7 (by decide) (fun c_2 => ?_) (fun c_2 => ?_)
  · have hf := (if_pos c_2).symm.trans hf
    refine lv_iconst (v := (1 : Int32)) hx hb dX9_period_14 (by decide) ?_
    exact J15 Mh p1 p2 (1 : Int32) hf _ _ hP hS _ (lv_sub hl [0, 1, 2] rfl)
  · have hf := (if_neg c_2).symm.trans hf
    refine lv_iconst (v := (0 : Int32)) hx hb dX9_period_10 (by decide) ?_
    refine lv_goto (tgt := 15) hx hb dX9_period_11 (by decide) ?_
    exact J15 Mh p1 p2 (0 : Int32) hf _ _ hP hS _ (lv_sub hl [0, 1, 2] rfl)
set_option maxHeartbeats 4000000 in
set_option maxRecDepth 100000 in
theorem kX9_periodByTrying (l : Launch) (D : va_G) (cI cJ cD : ClassId) (q : Nat → Nat) (hq : gInj q) (N : Nat) (Mh : Int32) (Mn : Int32) (Mm : Int32) (Mt : (Nat → Int32)) (p1 : Int32) (p2 : Int32) (r0 : Int32) (Mh9 : Int32) (hf : fX9_periodByTrying N Mh Mn Mm Mt p1 p2 = some (r0, Mh9)) : Met l yX9_periodByTrying wsX9_periodByTrying rX9_periodByTrying (gP D cI cJ cD [.ref (q 14), .int p1, .int p2] (w_14_15 q cI cJ cD Mh Mn Mm Mt)) (gQ D (some (.int r0)) (w_14_15 q cI cJ cD Mh9 Mn Mm Mt) (gA q [14, 15])) 0 0 (gA q [14, 15]) := by
  refine Met.ofW (cc := cX9_periodByTrying) (maxL := 3) (ret := (some .int)) (by decide +kernel) rfl ?_
  intro p e s m args below meth c s₁ B hml hv
  obtain ⟨rfl, hP, hE⟩ := hv
  have hx := B.exec
  have hb := B.bytes
  have hr := B.returns
  have hts := atoms_spec (ws := wsX9_periodByTrying) B.pre
  have hown : s.vm.findClass RX9 = some m.cls := findClass_of_methodNamed B.named
  have hlocks := B.notSynchronized
  have hS : va_S (gA q [14, 15]) s.heap s.heap [] := va_S.rf
  have hl := lv_entry ([.ref (q 14), .int p1, .int p2]) (n := 3) (Nat.le_of_ble_eq_true rfl)
  rw [lg_entry_eq]
  generalize (lg_sl ([.ref (q 14), .int p1, .int p2]) ++ List.replicate (3 - (lg_sl ([.ref (q 14), .int p1, .int p2])).length) Slot.unset).toArray = ls at hl ⊢
  have hl : lv_has ls 3 [(0, .ref (q 14)), (1, .int p1), (2, .int p2)] := hl
  have J31 : ∀ (Mh : Int32) (y0 : Int32), fX9_periodByTrying_J31 N Mn Mm Mt Mh y0 = some (r0, Mh9) → ∀ (H : Heap) (locs : List Loc), va_P D vwCl (w_14_15 q cI cJ cD Mh Mn Mm Mt) H → va_S (gA q [14, 15]) s.heap H locs → ∀ ls : Array Slot, lv_has ls 3 [] → W p l e (headSpec wsX9_periodByTrying rX9_periodByTrying).room s m ([.ref (q 14), .int p1, .int p2] : List Value).toArray below meth c H locs 0 0 (MQ below (gQ D (some (.int r0)) (w_14_15 q cI cJ cD Mh9 Mn Mm Mt) (gA q [14, 15])) ([.ref (q 14), .int p1, .int p2] : List Value).toArray s 0 0 (gA q [14, 15])) (F0 m 31 ls [.int y0]) := by
    intro Mh y0 hf H locs hP hS ls hl
    unfold fX9_periodByTrying_J31 at hf
    cases hf
    exact W.iret hx hb hr (fun t ht hW => ⟨⟨rfl, by rw [ht]; exact hP⟩, hS.F ht⟩) hS.2.2 dX9_periodByTrying_31
  have J15 : ∀ (Mh : Int32) (x1 : Int32) (x2 : Int32) (y1 : Int32), fX9_periodByTrying_J15 N Mn Mm Mt Mh x1 x2 y1 = some (r0, Mh9) → ∀ (H : Heap) (locs : List Loc), va_P D vwCl (w_14_15 q cI cJ cD Mh Mn Mm Mt) H → va_S (gA q [14, 15]) s.heap H locs → ∀ ls : Array Slot, lv_has ls 3 [(0, .ref (q 14)), (1, .int x1), (2, .int x2)] → W p l e (headSpec wsX9_periodByTrying rX9_periodByTrying).room s m ([.ref (q 14), .int p1, .int p2] : List Value).toArray below meth c H locs 0 0 (MQ below (gQ D (some (.int r0)) (w_14_15 q cI cJ cD Mh9 Mn Mm Mt) (gA q [14, 15])) ([.ref (q 14), .int p1, .int p2] : List Value).toArray s 0 0 (gA q [14, 15])) (F0 m 15 ls [.int y1, .ref (q 14)]) := by
    intro Mh x1 x2 y1 hf H locs hP hS ls hl
    unfold fX9_periodByTrying_J15 at hf
    obtain ⟨⟨r15, Mh15⟩, hc, hf⟩ := bn_some hf
    try dsimp only at hf
    refine g_call0 (ws' := (w_14_15 q cI cJ cD Mh15 Mn Mm Mt)) (st1 := [.int r15]) hq [14, 15] [14] [.inl 0, .inr 1] (va_runV (As := [.int y1]) (rest := []) ⟨hx, hb, hml, hown, hts⟩ (kX9_goesWell l D cI cJ cD q hq N Mh Mn Mm y1 r15 Mh15 hc) (cwV 1 hts gX9_periodByTrying_X9_goesWell rfl rfl rfl (by decide +kernel) ⟨(Nat.le_of_ble_eq_true rfl), (Nat.le_of_ble_eq_true rfl)⟩) ⟨gP_blind, va_recv hE.1 hP (ci := 7) (q0 := 0) rfl rfl, fun U hU hW => ⟨rfl, by rw [hU]; exact hP.sub (ws' := (w_14 q cI cJ cD Mh Mn Mm)) [0] rfl, gEv.warm hW hE⟩⟩ rfl rfl hl.1 rfl (lv_room (Nat.le_of_ble_eq_true rfl)) dX9_periodByTrying_15 ⟨Nat.zero_le _, Nat.zero_le _⟩) hP hS (gSub rfl) rfl rfl rfl rfl rfl (fun H locs hP hS => ?_)
    refine lv_if_eq (tgt := 30) hx hb dX9_periodByTrying_18 (by decide) (fun c_1 => ?_) (fun c_1 => ?_)
    · have hf := (if_pos c_1).symm.trans hf
      refine lv_iconst (v := (0 : Int32)) hx hb dX9_periodByTrying_30 (by decide) ?_
      exact J31 Mh15 (0 : Int32) hf _ _ hP hS _ (lv_sub hl [] rfl)
    · have hf := (if_neg c_1).symm.trans hf
      refine lv_aload_n hx hb dX9_periodByTrying_21 rfl (lv_at hl 0 rfl) ?_
      refine lv_iload_n hx hb dX9_periodByTrying_22 rfl (lv_at hl 1 rfl) ?_
      refine lv_iload_n hx hb dX9_periodByTrying_23 rfl (lv_at hl 2 rfl) ?_
      obtain ⟨r24, hc, hf⟩ := bn_some hf
      try dsimp only at hf
      refine g_call0 (ws' := (w_14_15 q cI cJ cD Mh15 Mn Mm Mt)) (st1 := [.int r24]) hq [14, 15] [14, 15] [.inl 0, .inl 1] (va_runV (As := [.int x1, .int x2]) (rest := []) ⟨hx, hb, hml, hown, hts⟩ (kX9_leastPeriod l D cI cJ cD q hq N Mh15 Mn Mm Mt x1 x2 r24 hc) (cwV 2 hts gX9_periodByTrying_X9_leastPeriod rfl rfl rfl (by decide +kernel) ⟨(Nat.le_of_ble_eq_true rfl), (Nat.le_of_ble_eq_true rfl)⟩) ⟨gP_blind, va_recv hE.1 hP (ci := 7) (q0 := 0) rfl rfl, fun U hU hW => ⟨rfl, by rw [hU]; exact hP.sub (ws' := (w_14_15 q cI cJ cD Mh15 Mn Mm Mt)) [0, 1] rfl, gEv.warm hW hE⟩⟩ rfl rfl hl.1 rfl (lv_room (Nat.le_of_ble_eq_true rfl)) dX9_periodByTrying_24 ⟨Nat.zero_le _, Nat.zero_le _⟩) hP hS (gSub rfl) rfl rfl rfl rfl rfl (fun H locs hP hS => ?_)
      refine lv_goto (tgt := 31) hx hb dX9_periodByTrying_27 (by decide) ?_
      exact J31 Mh15 r24 hf _ _ hP hS _ (lv_sub hl [] rfl)
  unfold fX9_periodByTrying at hf
  refine lv_aload_n hx hb dX9_periodByTrying_0 rfl (lv_at hl 0 rfl) ?_
  refine lv_aload_n hx hb dX9_periodByTrying_1 rfl (lv_at hl 0 rfl) ?_
  refine lv_iload_n hx hb dX9_periodByTrying_2 rfl (lv_at hl 1 rfl) ?_
  refine lv_iload_n hx hb dX9_periodByTrying_3 rfl (lv_at hl 2 rfl) ?_
  obtain ⟨r4, hc, hf⟩ := bn_some hf
  try dsimp only at hf
  refine g_call0 (ws' := (w_14_15 q cI cJ cD Mh Mn Mm Mt)) (st1 := [.int r4, .ref (q 14)]) hq [14, 15] [14] [.inl 0, .inr 1] (va_runV (As := [.int p1, .int p2]) (rest := [.ref (q 14)]) ⟨hx, hb, hml, hown, hts⟩ (kX9_isPart l D cI cJ cD q hq N Mh Mn Mm p1 p2 r4 hc) (cwV 2 hts gX9_periodByTrying_X9_isPart rfl rfl rfl (by decide +kernel) ⟨(Nat.le_of_ble_eq_true rfl), (Nat.le_of_ble_eq_true rfl)⟩) ⟨gP_blind, va_recv hE.1 hP (ci := 7) (q0 := 0) rfl rfl, fun U hU hW => ⟨rfl, by rw [hU]; exact hP.sub (ws' := (w_14 q cI cJ cD Mh Mn Mm)) [0] rfl, gEv.warm hW hE⟩⟩ rfl rfl hl.1 rfl (lv_room (Nat.le_of_ble_eq_true rfl)) dX9_periodByTrying_4 ⟨Nat.zero_le _, Nat.zero_le _⟩) hP hS (gSub rfl) rfl rfl rfl rfl rfl (fun H locs hP hS => ?_)
  refine lv_if_eq (tgt := 14) hx hb dX9_periodByTrying_7 (by decide) (fun c_2 => ?_) (fun c_2 => ?_)
  · have hf := (if_pos c_2).symm.trans hf
    refine lv_iconst (v := (1 : Int32)) hx hb dX9_periodByTrying_14 (by decide) ?_
    exact J15 Mh p1 p2 (1 : Int32) hf _ _ hP hS _ (lv_sub hl [0, 1, 2] rfl)
  · have hf := (if_neg c_2).symm.trans hf
    refine lv_iconst (v := (0 : Int32)) hx hb dX9_periodByTrying_10 (by decide) ?_
    refine lv_goto (tgt := 15) hx hb dX9_periodByTrying_11 (by decide) ?_
    exact J15 Mh p1 p2 (0 : Int32) hf _ _ hP hS _ (lv_sub hl [0, 1, 2] rfl)
set_option maxHeartbeats 4000000 in
set_option maxRecDepth 100000 in
theorem kX9_isPeriod (l : Launch) (D : va_G) (cI cJ cD : ClassId) (q : Nat → Nat) (hq : gInj q) (N : Nat) (Mh : Int32) (Mn : Int32) (Mm : Int32) (Mt : (Nat → Int32)) (p1 : Int32) (p2 : Int32) (p3 : Int32) (r0 : Int32) (Mh9 : Int32) (hf : fX9_isPeriod N Mh Mn Mm Mt p1 p2 p3 = some (r0, Mh9)) : Met l yX9_isPeriod wsX9_isPeriod rX9_isPeriod (gP D cI cJ cD [.ref (q 14), .int p1, .int p2, .int p3] (w_14_15 q cI cJ cD Mh Mn Mm Mt)) (gQ D (some (.int r0)) (w_14_15 q cI cJ cD Mh9 Mn Mm Mt) (gA q [14, 15])) 0 0 (gA q [14, 15]) := by
  refine Met.ofW (cc := cX9_isPeriod) (maxL := 4) (ret := (some .boolean)) (by decide +kernel) rfl ?_
  intro p e s m args below meth c s₁ B hml hv
  obtain ⟨rfl, hP, hE⟩ := hv
  have hx := B.exec
  have hb := B.bytes
  have hr := B.returns
  have hts := atoms_spec (ws := wsX9_isPeriod) B.pre
  have hown : s.vm.findClass RX9 = some m.cls := findClass_of_methodNamed B.named
  have hlocks := B.notSynchronized
  have hS : va_S (gA q [14, 15]) s.heap s.heap [] := va_S.rf
  have hl := lv_entry ([.ref (q 14), .int p1, .int p2, .int p3]) (n := 4) (Nat.le_of_ble_eq_true rfl)
  rw [lg_entry_eq]
  generalize (lg_sl ([.ref (q 14), .int p1, .int p2, .int p3]) ++ List.replicate (4 - (lg_sl ([.ref (q 14), .int p1, .int p2, .int p3])).length) Slot.unset).toArray = ls at hl ⊢
  have hl : lv_has ls 4 [(0, .ref (q 14)), (1, .int p1), (2, .int p2), (3, .int p3)] := hl
  have J51 : ∀ (Mh : Int32) (y0 : Int32), fX9_isPeriod_J51 N Mn Mm Mt Mh y0 = some (r0, Mh9) → ∀ (H : Heap) (locs : List Loc), va_P D vwCl (w_14_15 q cI cJ cD Mh Mn Mm Mt) H → va_S (gA q [14, 15]) s.heap H locs → ∀ ls : Array Slot, lv_has ls 4 [] → W p l e (headSpec wsX9_isPeriod rX9_isPeriod).room s m ([.ref (q 14), .int p1, .int p2, .int p3] : List Value).toArray below meth c H locs 0 0 (MQ below (gQ D (some (.int r0)) (w_14_15 q cI cJ cD Mh9 Mn Mm Mt) (gA q [14, 15])) ([.ref (q 14), .int p1, .int p2, .int p3] : List Value).toArray s 0 0 (gA q [14, 15])) (F0 m 51 ls [.int y0]) := by
    intro Mh y0 hf H locs hP hS ls hl
    unfold fX9_isPeriod_J51 at hf
    obtain ⟨g_1, hf⟩ := gd_some hf
    cases hf
    exact W.zret (ty := .boolean) hx hb hr (isB_nar g_1) (fun t ht hW => ⟨⟨rfl, by rw [ht]; exact hP⟩, hS.F ht⟩) hS.2.2 dX9_isPeriod_51
  have J50 : ∀ (Mh : Int32), fX9_isPeriod_J50 N Mn Mm Mt Mh = some (r0, Mh9) → ∀ (H : Heap) (locs : List Loc), va_P D vwCl (w_14_15 q cI cJ cD Mh Mn Mm Mt) H → va_S (gA q [14, 15]) s.heap H locs → ∀ ls : Array Slot, lv_has ls 4 [] → W p l e (headSpec wsX9_isPeriod rX9_isPeriod).room s m ([.ref (q 14), .int p1, .int p2, .int p3] : List Value).toArray below meth c H locs 0 0 (MQ below (gQ D (some (.int r0)) (w_14_15 q cI cJ cD Mh9 Mn Mm Mt) (gA q [14, 15])) ([.ref (q 14), .int p1, .int p2, .int p3] : List Value).toArray s 0 0 (gA q [14, 15])) (F0 m 50 ls []) := by
    intro Mh hf H locs hP hS ls hl
    unfold fX9_isPeriod_J50 at hf
    refine lv_iconst (v := (0 : Int32)) hx hb dX9_isPeriod_50 (by decide) ?_
    exact J51 Mh (0 : Int32) hf _ _ hP hS _ (lv_sub hl [] rfl)
  have J30 : ∀ (Mh : Int32) (x1 : Int32) (x2 : Int32) (x3 : Int32) (y1 : Int32), fX9_isPeriod_J30 N Mn Mm Mt Mh x1 x2 x3 y1 = some (r0, Mh9) → ∀ (H : Heap) (locs : List Loc), va_P D vwCl (w_14_15 q cI cJ cD Mh Mn Mm Mt) H → va_S (gA q [14, 15]) s.heap H locs → ∀ ls : Array Slot, lv_has ls 4 [(0, .ref (q 14)), (1, .int x1), (2, .int x2), (3, .int x3)] → W p l e (headSpec wsX9_isPeriod rX9_isPeriod).room s m ([.ref (q 14), .int p1, .int p2, .int p3] : List Value).toArray below meth c H locs 0 0 (MQ below (gQ D (some (.int r0)) (w_14_15 q cI cJ cD Mh9 Mn Mm Mt) (gA q [14, 15])) ([.ref (q 14), .int p1, .int p2, .int p3] : List Value).toArray s 0 0 (gA q [14, 15])) (F0 m 30 ls [.int y1, .ref (q 14)]) := by
    intro Mh x1 x2 x3 y1 hf H locs hP hS ls hl
    unfold fX9_isPeriod_J30 at hf
    obtain ⟨⟨r30, Mh30⟩, hc, hf⟩ := bn_some hf
    try dsimp only at hf
    refine g_call0 (ws' := (w_14_15 q cI cJ cD Mh30 Mn Mm Mt)) (st1 := [.int r30]) hq [14, 15] [14] [.inl 0, .inr 1] (va_runV (As := [.int y1]) (rest := []) ⟨hx, hb, hml, hown, hts⟩ (kX9_goesWell l D cI cJ cD q hq N Mh Mn Mm y1 r30 Mh30 hc) (cwV 1 hts gX9_isPeriod_X9_goesWell rfl rfl rfl (by decide +kernel) ⟨(Nat.le_of_ble_eq_true rfl), (Nat.le_of_ble_eq_true rfl)⟩) ⟨gP_blind, va_recv hE.1 hP (ci := 7) (q0 := 0) rfl rfl, fun U hU hW => ⟨rfl, by rw [hU]; exact hP.sub (ws' := (w_14 q cI cJ cD Mh Mn Mm)) [0] rfl, gEv.warm hW hE⟩⟩ rfl rfl hl.1 rfl (lv_room (Nat.le_of_ble_eq_true rfl)) dX9_isPeriod_30 ⟨Nat.zero_le _, Nat.zero_le _⟩) hP hS (gSub rfl) rfl rfl rfl rfl rfl (fun H locs hP hS => ?_)
    refine lv_if_eq (tgt := 50) hx hb dX9_isPeriod_33 (by decide) (fun c_2 => ?_) (fun c_2 => ?_)
    · have hf := (if_pos c_2).symm.trans hf
      exact J50 Mh30 hf _ _ hP hS _ (lv_sub hl [] rfl)
    · have hf := (if_neg c_2).symm.trans hf
      refine lv_aload_n hx hb dX9_isPeriod_36 rfl (lv_at hl 0 rfl) ?_
      refine lv_iload_n hx hb dX9_isPeriod_37 rfl (lv_at hl 1 rfl) ?_
      refine lv_iload_n hx hb dX9_isPeriod_38 rfl (lv_at hl 2 rfl) ?_
      refine lv_iload_n hx hb dX9_isPeriod_39 rfl (lv_at hl 3 rfl) ?_
      obtain ⟨r40, hc, hf⟩ := bn_some hf
      try dsimp only at hf
      refine g_call0 (ws' := (w_14_15 q cI cJ cD Mh30 Mn Mm Mt)) (st1 := [.int r40]) hq [14, 15] [14, 15] [.inl 0, .inl 1] (va_runV (As := [.int x1, .int x2, .int x3]) (rest := []) ⟨hx, hb, hml, hown, hts⟩ (kX9_hasPeriod l D cI cJ cD q hq N Mh30 Mn Mm Mt x1 x2 x3 r40 hc) (cwV 3 hts gX9_isPeriod_X9_hasPeriod rfl rfl rfl (by decide +kernel) ⟨(Nat.le_of_ble_eq_true rfl), (Nat.le_of_ble_eq_true rfl)⟩) ⟨gP_blind, va_recv hE.1 hP (ci := 7) (q0 := 0) rfl rfl, fun U hU hW => ⟨rfl, by rw [hU]; exact hP.sub (ws' := (w_14_15 q cI cJ cD Mh30 Mn Mm Mt)) [0, 1] rfl, gEv.warm hW hE⟩⟩ rfl rfl hl.1 rfl (lv_room (Nat.le_of_ble_eq_true rfl)) dX9_isPeriod_40 ⟨Nat.zero_le _, Nat.zero_le _⟩) hP hS (gSub rfl) rfl rfl rfl rfl rfl (fun H locs hP hS => ?_)
      refine lv_if_eq (tgt := 50) hx hb dX9_isPeriod_43 (by decide) (fun c_3 => ?_) (fun c_3 => ?_)
      · have hf := (if_pos c_3).symm.trans hf
        exact J50 Mh30 hf _ _ hP hS _ (lv_sub hl [] rfl)
      · have hf := (if_neg c_3).symm.trans hf
        refine lv_iconst (v := (1 : Int32)) hx hb dX9_isPeriod_46 (by decide) ?_
        refine lv_goto (tgt := 51) hx hb dX9_isPeriod_47 (by decide) ?_
        exact J51 Mh30 (1 : Int32) hf _ _ hP hS _ (lv_sub hl [] rfl)
  unfold fX9_isPeriod at hf
  refine lv_aload_n hx hb dX9_isPeriod_0 rfl (lv_at hl 0 rfl) ?_
  refine lv_aload_n hx hb dX9_isPeriod_1 rfl (lv_at hl 0 rfl) ?_
  refine lv_iload_n hx hb dX9_isPeriod_2 rfl (lv_at hl 1 rfl) ?_
  refine lv_iload_n hx hb dX9_isPeriod_3 rfl (lv_at hl 2 rfl) ?_
  obtain ⟨r4, hc, hf⟩ := bn_some hf
  try dsimp only at hf
  refine g_call0 (ws' := (w_14_15 q cI cJ cD Mh Mn Mm Mt)) (st1 := [.int r4, .ref (q 14)]) hq [14, 15] [14] [.inl 0, .inr 1] (va_runV (As := [.int p1, .int p2]) (rest := [.ref (q 14)]) ⟨hx, hb, hml, hown, hts⟩ (kX9_isPart l D cI cJ cD q hq N Mh Mn Mm p1 p2 r4 hc) (cwV 2 hts gX9_isPeriod_X9_isPart rfl rfl rfl (by decide +kernel) ⟨(Nat.le_of_ble_eq_true rfl), (Nat.le_of_ble_eq_true rfl)⟩) ⟨gP_blind, va_recv hE.1 hP (ci := 7) (q0 := 0) rfl rfl, fun U hU hW => ⟨rfl, by rw [hU]; exact hP.sub (ws' := (w_14 q cI cJ cD Mh Mn Mm)) [0] rfl, gEv.warm hW hE⟩⟩ rfl rfl hl.1 rfl (lv_room (Nat.le_of_ble_eq_true rfl)) dX9_isPeriod_4 ⟨Nat.zero_le _, Nat.zero_le _⟩) hP hS (gSub rfl) rfl rfl rfl rfl rfl (fun H locs hP hS => ?_)
  refine lv_if_ne (tgt := 14) hx hb dX9_isPeriod_7 (by decide) (fun c_4 => ?_) (fun c_4 => ?_)
  · have hf := (if_neg c_4).symm.trans hf
    refine lv_iload_n hx hb dX9_isPeriod_14 rfl (lv_at hl 3 rfl) ?_
    refine lv_iconst (v := (1 : Int32)) hx hb dX9_isPeriod_15 (by decide) ?_
    refine lv_iload_n hx hb dX9_isPeriod_16 rfl (lv_at hl 2 rfl) ?_
    refine lv_iload_n hx hb dX9_isPeriod_17 rfl (lv_at hl 1 rfl) ?_
    refine lv_isub hx hb dX9_isPeriod_18 ?_
    obtain ⟨r19, hc, hf⟩ := bn_some hf
    try dsimp only at hf
    refine g_call0 (ws' := (w_14_15 q cI cJ cD Mh Mn Mm Mt)) (st1 := [.int r19, .ref (q 14)]) hq [14, 15] [] [.inr 0, .inr 1] (va_runS (As := [.int p3, .int (1 : Int32), .int (p2 - p1)]) (rest := [.ref (q 14)]) ⟨hx, hb, hml, hown, hts⟩ (kX9_in l D cI cJ cD q hq N p3 (1 : Int32) (p2 - p1) r19 hc) (va_cwS 3 hts gX9_isPeriod_X9_in rfl rfl rfl (by decide +kernel) ⟨(Nat.le_of_ble_eq_true rfl), (Nat.le_of_ble_eq_true rfl)⟩) ⟨gP_blind, fun U hU hW => ⟨rfl, by rw [hU]; exact hP.sub (ws' := (w_0none q cI cJ cD)) [] rfl, gEv.warm hW hE⟩⟩ rfl rfl hl.1 rfl (lv_room (Nat.le_of_ble_eq_true rfl)) dX9_isPeriod_19 ⟨Nat.zero_le _, Nat.zero_le _⟩) hP hS (gSub rfl) rfl rfl rfl rfl rfl (fun H locs hP hS => ?_)
    refine lv_if_ne (tgt := 29) hx hb dX9_isPeriod_22 (by decide) (fun c_5 => ?_) (fun c_5 => ?_)
    · have hf := (if_neg c_5).symm.trans hf
      refine lv_iconst (v := (0 : Int32)) hx hb dX9_isPeriod_29 (by decide) ?_
      exact J30 Mh p1 p2 p3 (0 : Int32) hf _ _ hP hS _ (lv_sub hl [0, 1, 2, 3] rfl)
    · have hf := (if_pos c_5).symm.trans hf
      refine lv_iconst (v := (2 : Int32)) hx hb dX9_isPeriod_25 (by decide) ?_
      refine lv_goto (tgt := 30) hx hb dX9_isPeriod_26 (by decide) ?_
      exact J30 Mh p1 p2 p3 (2 : Int32) hf _ _ hP hS _ (lv_sub hl [0, 1, 2, 3] rfl)
  · have hf := (if_pos c_4).symm.trans hf
    refine lv_iconst (v := (1 : Int32)) hx hb dX9_isPeriod_10 (by decide) ?_
    refine lv_goto (tgt := 30) hx hb dX9_isPeriod_11 (by decide) ?_
    exact J30 Mh p1 p2 p3 (1 : Int32) hf _ _ hP hS _ (lv_sub hl [0, 1, 2, 3] rfl)
set_option maxHeartbeats 4000000 in
set_option maxRecDepth 100000 in
theorem kX9_periods (l : Launch) (D : va_G) (cI cJ cD : ClassId) (q : Nat → Nat) (hq : gInj q) (N : Nat) (Mh : Int32) (Mn : Int32) (Mm : Int32) (Mt : (Nat → Int32)) (p1 : Int32) (p2 : Int32) (r0 : Int32) (Mh9 : Int32) (hf : fX9_periods N Mh Mn Mm Mt p1 p2 = some (r0, Mh9)) : Met l yX9_periods wsX9_periods rX9_periods (gP D cI cJ cD [.ref (q 14), .int p1, .int p2] (w_14_15 q cI cJ cD Mh Mn Mm Mt)) (gQ D (some (.int r0)) (w_14_15 q cI cJ cD Mh9 Mn Mm Mt) (gA q [14, 15])) 0 0 (gA q [14, 15]) := by
  refine Met.ofW (cc := cX9_periods) (maxL := 5) (ret := (some .int)) (by decide +kernel) rfl ?_
  intro p e s m args below meth c s₁ B hml hv
  obtain ⟨rfl, hP, hE⟩ := hv
  have hx := B.exec
  have hb := B.bytes
  have hr := B.returns
  have hts := atoms_spec (ws := wsX9_periods) B.pre
  have hown : s.vm.findClass RX9 = some m.cls := findClass_of_methodNamed B.named
  have hlocks := B.notSynchronized
  have hS : va_S (gA q [14, 15]) s.heap s.heap [] := va_S.rf
  have hl := lv_entry ([.ref (q 14), .int p1, .int p2]) (n := 5) (Nat.le_of_ble_eq_true rfl)
  rw [lg_entry_eq]
  generalize (lg_sl ([.ref (q 14), .int p1, .int p2]) ++ List.replicate (5 - (lg_sl ([.ref (q 14), .int p1, .int p2])).length) Slot.unset).toArray = ls at hl ⊢
  have hl : lv_has ls 5 [(0, .ref (q 14)), (1, .int p1), (2, .int p2)] := hl
  have J61 : ∀ (Mh : Int32) (x3 : Int32), fX9_periods_J61 N Mn Mm Mt Mh x3 = some (r0, Mh9) → ∀ (H : Heap) (locs : List Loc), va_P D vwCl (w_14_15 q cI cJ cD Mh Mn Mm Mt) H → va_S (gA q [14, 15]) s.heap H locs → ∀ ls : Array Slot, lv_has ls 5 [(3, .int x3)] → W p l e (headSpec wsX9_periods rX9_periods).room s m ([.ref (q 14), .int p1, .int p2] : List Value).toArray below meth c H locs 0 0 (MQ below (gQ D (some (.int r0)) (w_14_15 q cI cJ cD Mh9 Mn Mm Mt) (gA q [14, 15])) ([.ref (q 14), .int p1, .int p2] : List Value).toArray s 0 0 (gA q [14, 15])) (F0 m 61 ls []) := by
    intro Mh x3 hf H locs hP hS ls hl
    unfold fX9_periods_J61 at hf
    refine lv_iload_n hx hb dX9_periods_61 rfl (lv_at hl 0 rfl) ?_
    cases hf
    exact W.iret hx hb hr (fun t ht hW => ⟨⟨rfl, by rw [ht]; exact hP⟩, hS.F ht⟩) hS.2.2 dX9_periods_62
  have K28 : ∀ (n28 : Nat) (Mh : Int32) (x1 : Int32) (x2 : Int32) (x3 : Int32) (x4 : Int32), fX9_periods_H28 N Mn Mm Mt n28 Mh x1 x2 x3 x4 = some (r0, Mh9) → ∀ (H : Heap) (locs : List Loc), va_P D vwCl (w_14_15 q cI cJ cD Mh Mn Mm Mt) H → va_S (gA q [14, 15]) s.heap H locs → ∀ ls : Array Slot, lv_has ls 5 [(0, .ref (q 14)), (1, .int x1), (2, .int x2), (3, .int x3), (4, .int x4)] → W p l e (headSpec wsX9_periods rX9_periods).room s m ([.ref (q 14), .int p1, .int p2] : List Value).toArray below meth c H locs 0 0 (MQ below (gQ D (some (.int r0)) (w_14_15 q cI cJ cD Mh9 Mn Mm Mt) (gA q [14, 15])) ([.ref (q 14), .int p1, .int p2] : List Value).toArray s 0 0 (gA q [14, 15])) (F0 m 28 ls []) := by
    intro n28
    induction n28 with
    | zero =>
      intro Mh x1 x2 x3 x4 hf
      exact nomatch (show (none : Option (Int32 × Int32)) = some (r0, Mh9) from hf)
    | succ n28 ih28 =>
      have J53 : ∀ (Mh : Int32) (x1 : Int32) (x2 : Int32) (x4 : Int32) (y0 : Int32) (y1 : Int32), fX9_periods_J53 N Mn Mm Mt (fX9_periods_H28 N Mn Mm Mt n28) Mh x1 x2 x4 y0 y1 = some (r0, Mh9) → ∀ (H : Heap) (locs : List Loc), va_P D vwCl (w_14_15 q cI cJ cD Mh Mn Mm Mt) H → va_S (gA q [14, 15]) s.heap H locs → ∀ ls : Array Slot, lv_has ls 5 [(0, .ref (q 14)), (1, .int x1), (2, .int x2), (4, .int x4)] → W p l e (headSpec wsX9_periods rX9_periods).room s m ([.ref (q 14), .int p1, .int p2] : List Value).toArray below meth c H locs 0 0 (MQ below (gQ D (some (.int r0)) (w_14_15 q cI cJ cD Mh9 Mn Mm Mt) (gA q [14, 15])) ([.ref (q 14), .int p1, .int p2] : List Value).toArray s 0 0 (gA q [14, 15])) (F0 m 53 ls [.int y1, .int y0]) := by
        intro Mh x1 x2 x4 y0 y1 hf H locs hP hS ls hl
        unfold fX9_periods_J53 at hf
        refine lv_iadd hx hb dX9_periods_53 ?_
        refine lv_istore_n (lv' := [(3, .int (y0 + y1)), (0, .ref (q 14)), (1, .int x1), (2, .int x2), (4, .int x4)]) hx hb dX9_periods_54 rfl hl (by decide) rfl (fun ls hl => ?_)
        refine lv_iinc (v := (x4 + 1)) (lv' := [(4, .int (x4 + 1)), (3, .int (y0 + y1)), (0, .ref (q 14)), (1, .int x1), (2, .int x2)]) hx hb dX9_periods_55 hl (k := 4) rfl rfl (by decide) rfl (fun ls hl => ?_)
        refine lv_goto (tgt := 28) hx hb dX9_periods_58 (by decide) ?_
        exact ih28 Mh x1 x2 (y0 + y1) (x4 + 1) hf _ _ hP hS _ (lv_sub hl [2, 3, 4, 1, 0] rfl)
      intro Mh x1 x2 x3 x4 hf H locs hP hS ls hl
      have hf : fX9_periods_B28 N Mn Mm Mt (fX9_periods_H28 N Mn Mm Mt n28) Mh x1 x2 x3 x4 = some (r0, Mh9) := hf
      unfold fX9_periods_B28 at hf
      refine lv_iload hx hb dX9_periods_28 (lv_at hl 4 rfl) ?_
      refine lv_iload_n hx hb dX9_periods_30 rfl (lv_at hl 2 rfl) ?_
      refine lv_iload_n hx hb dX9_periods_31 rfl (lv_at hl 1 rfl) ?_
      refine lv_isub hx hb dX9_periods_32 ?_
      refine lv_icmp_gt (tgt := 61) hx hb dX9_periods_33 (by decide) (fun c_1 => ?_) (fun c_1 => ?_)
      · have hf := (if_pos c_1).symm.trans hf
        exact J61 Mh x3 hf _ _ hP hS _ (lv_sub hl [3] rfl)
      · have hf := (if_neg c_1).symm.trans hf
        refine lv_iload_n hx hb dX9_periods_36 rfl (lv_at hl 3 rfl) ?_
        refine lv_aload_n hx hb dX9_periods_37 rfl (lv_at hl 0 rfl) ?_
        refine lv_iload_n hx hb dX9_periods_38 rfl (lv_at hl 1 rfl) ?_
        refine lv_iload_n hx hb dX9_periods_39 rfl (lv_at hl 2 rfl) ?_
        refine lv_iload hx hb dX9_periods_40 (lv_at hl 4 rfl) ?_
        obtain ⟨r42, hc, hf⟩ := bn_some hf
        try dsimp only at hf
        refine g_call0 (ws' := (w_14_15 q cI cJ cD Mh Mn Mm Mt)) (st1 := [.int r42, .int x3]) hq [14, 15] [14, 15] [.inl 0, .inl 1] (va_runV (As := [.int x1, .int x2, .int x4]) (rest := [.int x3]) ⟨hx, hb, hml, hown, hts⟩ (kX9_hasPeriod l D cI cJ cD q hq N Mh Mn Mm Mt x1 x2 x4 r42 hc) (cwV 3 hts gX9_periods_X9_hasPeriod rfl rfl rfl (by decide +kernel) ⟨(Nat.le_of_ble_eq_true rfl), (Nat.le_of_ble_eq_true rfl)⟩) ⟨gP_blind, va_recv hE.1 hP (ci := 7) (q0 := 0) rfl rfl, fun U hU hW => ⟨rfl, by rw [hU]; exact hP.sub (ws' := (w_14_15 q cI cJ cD Mh Mn Mm Mt)) [0, 1] rfl, gEv.warm hW hE⟩⟩ rfl rfl hl.1 rfl (lv_room (Nat.le_of_ble_eq_true rfl)) dX9_periods_42 ⟨Nat.zero_le _, Nat.zero_le _⟩) hP hS (gSub rfl) rfl rfl rfl rfl rfl (fun H locs hP hS => ?_)
        refine lv_if_eq (tgt := 52) hx hb dX9_periods_45 (by decide) (fun c_2 => ?_) (fun c_2 => ?_)
        · have hf := (if_pos c_2).symm.trans hf
          refine lv_iconst (v := (0 : Int32)) hx hb dX9_periods_52 (by decide) ?_
          exact J53 Mh x1 x2 x4 x3 (0 : Int32) hf _ _ hP hS _ (lv_sub hl [0, 1, 2, 4] rfl)
        · have hf := (if_neg c_2).symm.trans hf
          refine lv_iconst (v := (1 : Int32)) hx hb dX9_periods_48 (by decide) ?_
          refine lv_goto (tgt := 53) hx hb dX9_periods_49 (by decide) ?_
          exact J53 Mh x1 x2 x4 x3 (1 : Int32) hf _ _ hP hS _ (lv_sub hl [0, 1, 2, 4] rfl)
  have J15 : ∀ (Mh : Int32) (x1 : Int32) (x2 : Int32) (y1 : Int32), fX9_periods_J15 N Mn Mm Mt Mh x1 x2 y1 = some (r0, Mh9) → ∀ (H : Heap) (locs : List Loc), va_P D vwCl (w_14_15 q cI cJ cD Mh Mn Mm Mt) H → va_S (gA q [14, 15]) s.heap H locs → ∀ ls : Array Slot, lv_has ls 5 [(0, .ref (q 14)), (1, .int x1), (2, .int x2)] → W p l e (headSpec wsX9_periods rX9_periods).room s m ([.ref (q 14), .int p1, .int p2] : List Value).toArray below meth c H locs 0 0 (MQ below (gQ D (some (.int r0)) (w_14_15 q cI cJ cD Mh9 Mn Mm Mt) (gA q [14, 15])) ([.ref (q 14), .int p1, .int p2] : List Value).toArray s 0 0 (gA q [14, 15])) (F0 m 15 ls [.int y1, .ref (q 14)]) := by
    intro Mh x1 x2 y1 hf H locs hP hS ls hl
    unfold fX9_periods_J15 at hf
    obtain ⟨⟨r15, Mh15⟩, hc, hf⟩ := bn_some hf
    try dsimp only at hf
    refine g_call0 (ws' := (w_14_15 q cI cJ cD Mh15 Mn Mm Mt)) (st1 := [.int r15]) hq [14, 15] [14] [.inl 0, .inr 1] (va_runV (As := [.int y1]) (rest := []) ⟨hx, hb, hml, hown, hts⟩ (kX9_goesWell l D cI cJ cD q hq N Mh Mn Mm y1 r15 Mh15 hc) (cwV 1 hts gX9_periods_X9_goesWell rfl rfl rfl (by decide +kernel) ⟨(Nat.le_of_ble_eq_true rfl), (Nat.le_of_ble_eq_true rfl)⟩) ⟨gP_blind, va_recv hE.1 hP (ci := 7) (q0 := 0) rfl rfl, fun U hU hW => ⟨rfl, by rw [hU]; exact hP.sub (ws' := (w_14 q cI cJ cD Mh Mn Mm)) [0] rfl, gEv.warm hW hE⟩⟩ rfl rfl hl.1 rfl (lv_room (Nat.le_of_ble_eq_true rfl)) dX9_periods_15 ⟨Nat.zero_le _, Nat.zero_le _⟩) hP hS (gSub rfl) rfl rfl rfl rfl rfl (fun H locs hP hS => ?_)
    refine lv_if_ne (tgt := 23) hx hb dX9_periods_18 (by decide) (fun c_3 => ?_) (fun c_3 => ?_)
    · have hf := (if_neg c_3).symm.trans hf
      refine lv_iconst (v := (0 : Int32)) hx hb dX9_periods_23 (by decide) ?_
      refine lv_istore_n (lv' := [(3, .int (0 : Int32)), (0, .ref (q 14)), (1, .int x1), (2, .int x2)]) hx hb dX9_periods_24 rfl hl (by decide) rfl (fun ls hl => ?_)
      refine lv_iconst (v := (1 : Int32)) hx hb dX9_periods_25 (by decide) ?_
      refine lv_istore (lv' := [(4, .int (1 : Int32)), (3, .int (0 : Int32)), (0, .ref (q 14)), (1, .int x1), (2, .int x2)]) hx hb dX9_periods_26 hl (by decide) rfl (fun ls hl => ?_)
      exact K28 N Mh15 x1 x2 (0 : Int32) (1 : Int32) hf _ _ hP hS _ (lv_sub hl [2, 3, 4, 1, 0] rfl)
    · have hf := (if_pos c_3).symm.trans hf
      refine lv_iconst (v := (0 : Int32)) hx hb dX9_periods_21 (by decide) ?_
      cases hf
      exact W.iret hx hb hr (fun t ht hW => ⟨⟨rfl, by rw [ht]; exact hP⟩, hS.F ht⟩) hS.2.2 dX9_periods_22
  unfold fX9_periods at hf
  refine lv_aload_n hx hb dX9_periods_0 rfl (lv_at hl 0 rfl) ?_
  refine lv_aload_n hx hb dX9_periods_1 rfl (lv_at hl 0 rfl) ?_
  refine lv_iload_n hx hb dX9_periods_2 rfl (lv_at hl 1 rfl) ?_
  refine lv_iload_n hx hb dX9_periods_3 rfl (lv_at hl 2 rfl) ?_
  obtain ⟨r4, hc, hf⟩ := bn_some hf
  try dsimp only at hf
  refine g_call0 (ws' := (w_14_15 q cI cJ cD Mh Mn Mm Mt)) (st1 := [.int r4, .ref (q 14)]) hq [14, 15] [14] [.inl 0, .inr 1] (va_runV (As := [.int p1, .int p2]) (rest := [.ref (q 14)]) ⟨hx, hb, hml, hown, hts⟩ (kX9_isPart l D cI cJ cD q hq N Mh Mn Mm p1 p2 r4 hc) (cwV 2 hts gX9_periods_X9_isPart rfl rfl rfl (by decide +kernel) ⟨(Nat.le_of_ble_eq_true rfl), (Nat.le_of_ble_eq_true rfl)⟩) ⟨gP_blind, va_recv hE.1 hP (ci := 7) (q0 := 0) rfl rfl, fun U hU hW => ⟨rfl, by rw [hU]; exact hP.sub (ws' := (w_14 q cI cJ cD Mh Mn Mm)) [0] rfl, gEv.warm hW hE⟩⟩ rfl rfl hl.1 rfl (lv_room (Nat.le_of_ble_eq_true rfl)) dX9_periods_4 ⟨Nat.zero_le _, Nat.zero_le _⟩) hP hS (gSub rfl) rfl rfl rfl rfl rfl (fun H locs hP hS => ?_)
  refine lv_if_eq (tgt := 14) hx hb dX9_periods_7 (by decide) (fun c_4 => ?_) (fun c_4 => ?_)
  · have hf := (if_pos c_4).symm.trans hf
    refine lv_iconst (v := (1 : Int32)) hx hb dX9_periods_14 (by decide) ?_
    exact J15 Mh p1 p2 (1 : Int32) hf _ _ hP hS _ (lv_sub hl [0, 1, 2] rfl)
  · have hf := (if_neg c_4).symm.trans hf
    refine lv_iconst (v := (0 : Int32)) hx hb dX9_periods_10 (by decide) ?_
    refine lv_goto (tgt := 15) hx hb dX9_periods_11 (by decide) ?_
    exact J15 Mh p1 p2 (0 : Int32) hf _ _ hP hS _ (lv_sub hl [0, 1, 2] rfl)
set_option maxHeartbeats 4000000 in
set_option maxRecDepth 100000 in
theorem kX9_border (l : Launch) (D : va_G) (cI cJ cD : ClassId) (q : Nat → Nat) (hq : gInj q) (N : Nat) (Mh : Int32) (Mn : Int32) (Mm : Int32) (Mt : (Nat → Int32)) (p1 : Int32) (p2 : Int32) (r0 : Int32) (Mh9 : Int32) (hf : fX9_border N Mh Mn Mm Mt p1 p2 = some (r0, Mh9)) : Met l yX9_border wsX9_border rX9_border (gP D cI cJ cD [.ref (q 14), .int p1, .int p2] (w_14_15 q cI cJ cD Mh Mn Mm Mt)) (gQ D (some (.int r0)) (w_14_15 q cI cJ cD Mh9 Mn Mm Mt) (gA q [14, 15])) 0 0 (gA q [14, 15]) := by
  refine Met.ofW (cc := cX9_border) (maxL := 4) (ret := (some .int)) (by decide +kernel) rfl ?_
  intro p e s m args below meth c s₁ B hml hv
  obtain ⟨rfl, hP, hE⟩ := hv
  have hx := B.exec
  have hb := B.bytes
  have hr := B.returns
  have hts := atoms_spec (ws := wsX9_border) B.pre
  have hown : s.vm.findClass RX9 = some m.cls := findClass_of_methodNamed B.named
  have hlocks := B.notSynchronized
  have hS : va_S (gA q [14, 15]) s.heap s.heap [] := va_S.rf
  have hl := lv_entry ([.ref (q 14), .int p1, .int p2]) (n := 4) (Nat.le_of_ble_eq_true rfl)
  rw [lg_entry_eq]
  generalize (lg_sl ([.ref (q 14), .int p1, .int p2]) ++ List.replicate (4 - (lg_sl ([.ref (q 14), .int p1, .int p2])).length) Slot.unset).toArray = ls at hl ⊢
  have hl : lv_has ls 4 [(0, .ref (q 14)), (1, .int p1), (2, .int p2)] := hl
  have J51 : ∀ (Mh : Int32) (x3 : Int32), fX9_border_J51 N Mn Mm Mt Mh x3 = some (r0, Mh9) → ∀ (H : Heap) (locs : List Loc), va_P D vwCl (w_14_15 q cI cJ cD Mh Mn Mm Mt) H → va_S (gA q [14, 15]) s.heap H locs → ∀ ls : Array Slot, lv_has ls 4 [(3, .int x3)] → W p l e (headSpec wsX9_border rX9_border).room s m ([.ref (q 14), .int p1, .int p2] : List Value).toArray below meth c H locs 0 0 (MQ below (gQ D (some (.int r0)) (w_14_15 q cI cJ cD Mh9 Mn Mm Mt) (gA q [14, 15])) ([.ref (q 14), .int p1, .int p2] : List Value).toArray s 0 0 (gA q [14, 15])) (F0 m 51 ls []) := by
    intro Mh x3 hf H locs hP hS ls hl
    unfold fX9_border_J51 at hf
    refine lv_iload_n hx hb dX9_border_51 rfl (lv_at hl 0 rfl) ?_
    cases hf
    exact W.iret hx hb hr (fun t ht hW => ⟨⟨rfl, by rw [ht]; exact hP⟩, hS.F ht⟩) hS.2.2 dX9_border_52
  have K29 : ∀ (n29 : Nat) (Mh : Int32) (x1 : Int32) (x2 : Int32) (x3 : Int32), fX9_border_H29 N Mn Mm Mt n29 Mh x1 x2 x3 = some (r0, Mh9) → ∀ (H : Heap) (locs : List Loc), va_P D vwCl (w_14_15 q cI cJ cD Mh Mn Mm Mt) H → va_S (gA q [14, 15]) s.heap H locs → ∀ ls : Array Slot, lv_has ls 4 [(0, .ref (q 14)), (1, .int x1), (2, .int x2), (3, .int x3)] → W p l e (headSpec wsX9_border rX9_border).room s m ([.ref (q 14), .int p1, .int p2] : List Value).toArray below meth c H locs 0 0 (MQ below (gQ D (some (.int r0)) (w_14_15 q cI cJ cD Mh9 Mn Mm Mt) (gA q [14, 15])) ([.ref (q 14), .int p1, .int p2] : List Value).toArray s 0 0 (gA q [14, 15])) (F0 m 29 ls []) := by
    intro n29
    induction n29 with
    | zero =>
      intro Mh x1 x2 x3 hf
      exact nomatch (show (none : Option (Int32 × Int32)) = some (r0, Mh9) from hf)
    | succ n29 ih29 =>
      intro Mh x1 x2 x3 hf H locs hP hS ls hl
      have hf : fX9_border_B29 N Mn Mm Mt (fX9_border_H29 N Mn Mm Mt n29) Mh x1 x2 x3 = some (r0, Mh9) := hf
      unfold fX9_border_B29 at hf
      refine lv_aload_n hx hb dX9_border_29 rfl (lv_at hl 0 rfl) ?_
      refine lv_iload_n hx hb dX9_border_30 rfl (lv_at hl 1 rfl) ?_
      refine lv_iload_n hx hb dX9_border_31 rfl (lv_at hl 1 rfl) ?_
      refine lv_iload_n hx hb dX9_border_32 rfl (lv_at hl 3 rfl) ?_
      refine lv_iadd hx hb dX9_border_33 ?_
      refine lv_iload_n hx hb dX9_border_34 rfl (lv_at hl 2 rfl) ?_
      refine lv_iload_n hx hb dX9_border_35 rfl (lv_at hl 3 rfl) ?_
      refine lv_isub hx hb dX9_border_36 ?_
      refine lv_iload_n hx hb dX9_border_37 rfl (lv_at hl 2 rfl) ?_
      obtain ⟨r38, hc, hf⟩ := bn_some hf
      try dsimp only at hf
      refine g_call0 (ws' := (w_14_15 q cI cJ cD Mh Mn Mm Mt)) (st1 := [.int r38]) hq [14, 15] [14, 15] [.inl 0, .inl 1] (va_runV (As := [.int x1, .int (x1 + x3), .int (x2 - x3), .int x2]) (rest := []) ⟨hx, hb, hml, hown, hts⟩ (kX9_same l D cI cJ cD q hq N Mh Mn Mm Mt x1 (x1 + x3) (x2 - x3) x2 r38 hc) (cwV 4 hts gX9_border_X9_same rfl rfl rfl (by decide +kernel) ⟨(Nat.le_of_ble_eq_true rfl), (Nat.le_of_ble_eq_true rfl)⟩) ⟨gP_blind, va_recv hE.1 hP (ci := 7) (q0 := 0) rfl rfl, fun U hU hW => ⟨rfl, by rw [hU]; exact hP.sub (ws' := (w_14_15 q cI cJ cD Mh Mn Mm Mt)) [0, 1] rfl, gEv.warm hW hE⟩⟩ rfl rfl hl.1 rfl (lv_room (Nat.le_of_ble_eq_true rfl)) dX9_border_38 ⟨Nat.zero_le _, Nat.zero_le _⟩) hP hS (gSub rfl) rfl rfl rfl rfl rfl (fun H locs hP hS => ?_)
      refine lv_iload_n hx hb dX9_border_41 rfl (lv_at hl 3 rfl) ?_
      refine lv_icmp_ge (tgt := 51) hx hb dX9_border_42 (by decide) (fun c_1 => ?_) (fun c_1 => ?_)
      · have hf := (if_pos c_1).symm.trans hf
        exact J51 Mh x3 hf _ _ hP hS _ (lv_sub hl [3] rfl)
      · have hf := (if_neg c_1).symm.trans hf
        refine lv_iinc (v := (x3 + (-1 : Int32))) (lv' := [(3, .int (x3 + (-1 : Int32))), (0, .ref (q 14)), (1, .int x1), (2, .int x2)]) hx hb dX9_border_45 hl (k := 3) rfl rfl (by decide) rfl (fun ls hl => ?_)
        refine lv_goto (tgt := 29) hx hb dX9_border_48 (by decide) ?_
        exact ih29 Mh x1 x2 (x3 + (-1 : Int32)) hf _ _ hP hS _ (lv_sub hl [1, 2, 3, 0] rfl)
  have J15 : ∀ (Mh : Int32) (x1 : Int32) (x2 : Int32) (y1 : Int32), fX9_border_J15 N Mn Mm Mt Mh x1 x2 y1 = some (r0, Mh9) → ∀ (H : Heap) (locs : List Loc), va_P D vwCl (w_14_15 q cI cJ cD Mh Mn Mm Mt) H → va_S (gA q [14, 15]) s.heap H locs → ∀ ls : Array Slot, lv_has ls 4 [(0, .ref (q 14)), (1, .int x1), (2, .int x2)] → W p l e (headSpec wsX9_border rX9_border).room s m ([.ref (q 14), .int p1, .int p2] : List Value).toArray below meth c H locs 0 0 (MQ below (gQ D (some (.int r0)) (w_14_15 q cI cJ cD Mh9 Mn Mm Mt) (gA q [14, 15])) ([.ref (q 14), .int p1, .int p2] : List Value).toArray s 0 0 (gA q [14, 15])) (F0 m 15 ls [.int y1, .ref (q 14)]) := by
    intro Mh x1 x2 y1 hf H locs hP hS ls hl
    unfold fX9_border_J15 at hf
    obtain ⟨⟨r15, Mh15⟩, hc, hf⟩ := bn_some hf
    try dsimp only at hf
    refine g_call0 (ws' := (w_14_15 q cI cJ cD Mh15 Mn Mm Mt)) (st1 := [.int r15]) hq [14, 15] [14] [.inl 0, .inr 1] (va_runV (As := [.int y1]) (rest := []) ⟨hx, hb, hml, hown, hts⟩ (kX9_goesWell l D cI cJ cD q hq N Mh Mn Mm y1 r15 Mh15 hc) (cwV 1 hts gX9_border_X9_goesWell rfl rfl rfl (by decide +kernel) ⟨(Nat.le_of_ble_eq_true rfl), (Nat.le_of_ble_eq_true rfl)⟩) ⟨gP_blind, va_recv hE.1 hP (ci := 7) (q0 := 0) rfl rfl, fun U hU hW => ⟨rfl, by rw [hU]; exact hP.sub (ws' := (w_14 q cI cJ cD Mh Mn Mm)) [0] rfl, gEv.warm hW hE⟩⟩ rfl rfl hl.1 rfl (lv_room (Nat.le_of_ble_eq_true rfl)) dX9_border_15 ⟨Nat.zero_le _, Nat.zero_le _⟩) hP hS (gSub rfl) rfl rfl rfl rfl rfl (fun H locs hP hS => ?_)
    refine lv_if_ne (tgt := 23) hx hb dX9_border_18 (by decide) (fun c_2 => ?_) (fun c_2 => ?_)
    · have hf := (if_neg c_2).symm.trans hf
      refine lv_iload_n hx hb dX9_border_23 rfl (lv_at hl 2 rfl) ?_
      refine lv_iload_n hx hb dX9_border_24 rfl (lv_at hl 1 rfl) ?_
      refine lv_isub hx hb dX9_border_25 ?_
      refine lv_iconst (v := (1 : Int32)) hx hb dX9_border_26 (by decide) ?_
      refine lv_isub hx hb dX9_border_27 ?_
      refine lv_istore_n (lv' := [(3, .int ((x2 - x1) - (1 : Int32))), (0, .ref (q 14)), (1, .int x1), (2, .int x2)]) hx hb dX9_border_28 rfl hl (by decide) rfl (fun ls hl => ?_)
      exact K29 N Mh15 x1 x2 ((x2 - x1) - (1 : Int32)) hf _ _ hP hS _ (lv_sub hl [1, 2, 3, 0] rfl)
    · have hf := (if_pos c_2).symm.trans hf
      refine lv_iconst (v := (0 : Int32)) hx hb dX9_border_21 (by decide) ?_
      cases hf
      exact W.iret hx hb hr (fun t ht hW => ⟨⟨rfl, by rw [ht]; exact hP⟩, hS.F ht⟩) hS.2.2 dX9_border_22
  unfold fX9_border at hf
  refine lv_aload_n hx hb dX9_border_0 rfl (lv_at hl 0 rfl) ?_
  refine lv_aload_n hx hb dX9_border_1 rfl (lv_at hl 0 rfl) ?_
  refine lv_iload_n hx hb dX9_border_2 rfl (lv_at hl 1 rfl) ?_
  refine lv_iload_n hx hb dX9_border_3 rfl (lv_at hl 2 rfl) ?_
  obtain ⟨r4, hc, hf⟩ := bn_some hf
  try dsimp only at hf
  refine g_call0 (ws' := (w_14_15 q cI cJ cD Mh Mn Mm Mt)) (st1 := [.int r4, .ref (q 14)]) hq [14, 15] [14] [.inl 0, .inr 1] (va_runV (As := [.int p1, .int p2]) (rest := [.ref (q 14)]) ⟨hx, hb, hml, hown, hts⟩ (kX9_isPart l D cI cJ cD q hq N Mh Mn Mm p1 p2 r4 hc) (cwV 2 hts gX9_border_X9_isPart rfl rfl rfl (by decide +kernel) ⟨(Nat.le_of_ble_eq_true rfl), (Nat.le_of_ble_eq_true rfl)⟩) ⟨gP_blind, va_recv hE.1 hP (ci := 7) (q0 := 0) rfl rfl, fun U hU hW => ⟨rfl, by rw [hU]; exact hP.sub (ws' := (w_14 q cI cJ cD Mh Mn Mm)) [0] rfl, gEv.warm hW hE⟩⟩ rfl rfl hl.1 rfl (lv_room (Nat.le_of_ble_eq_true rfl)) dX9_border_4 ⟨Nat.zero_le _, Nat.zero_le _⟩) hP hS (gSub rfl) rfl rfl rfl rfl rfl (fun H locs hP hS => ?_)
  refine lv_if_eq (tgt := 14) hx hb dX9_border_7 (by decide) (fun c_3 => ?_) (fun c_3 => ?_)
  · have hf := (if_pos c_3).symm.trans hf
    refine lv_iconst (v := (1 : Int32)) hx hb dX9_border_14 (by decide) ?_
    exact J15 Mh p1 p2 (1 : Int32) hf _ _ hP hS _ (lv_sub hl [0, 1, 2] rfl)
  · have hf := (if_neg c_3).symm.trans hf
    refine lv_iconst (v := (0 : Int32)) hx hb dX9_border_10 (by decide) ?_
    refine lv_goto (tgt := 15) hx hb dX9_border_11 (by decide) ?_
    exact J15 Mh p1 p2 (0 : Int32) hf _ _ hP hS _ (lv_sub hl [0, 1, 2] rfl)
set_option maxHeartbeats 4000000 in
set_option maxRecDepth 100000 in
theorem kX9_rootLength (l : Launch) (D : va_G) (cI cJ cD : ClassId) (q : Nat → Nat) (hq : gInj q) (N : Nat) (Mh : Int32) (Mn : Int32) (Mm : Int32) (Mt : (Nat → Int32)) (p1 : Int32) (p2 : Int32) (r0 : Int32) (Mh9 : Int32) (hf : fX9_rootLength N Mh Mn Mm Mt p1 p2 = some (r0, Mh9)) : Met l yX9_rootLength wsX9_rootLength rX9_rootLength (gP D cI cJ cD [.ref (q 14), .int p1, .int p2] (w_14_15 q cI cJ cD Mh Mn Mm Mt)) (gQ D (some (.int r0)) (w_14_15 q cI cJ cD Mh9 Mn Mm Mt) (gA q [14, 15])) 0 0 (gA q [14, 15]) := by
  refine Met.ofW (cc := cX9_rootLength) (maxL := 3) (ret := (some .int)) (by decide +kernel) rfl ?_
  intro p e s m args below meth c s₁ B hml hv
  obtain ⟨rfl, hP, hE⟩ := hv
  have hx := B.exec
  have hb := B.bytes
  have hr := B.returns
  have hts := atoms_spec (ws := wsX9_rootLength) B.pre
  have hown : s.vm.findClass RX9 = some m.cls := findClass_of_methodNamed B.named
  have hlocks := B.notSynchronized
  have hS : va_S (gA q [14, 15]) s.heap s.heap [] := va_S.rf
  have hl := lv_entry ([.ref (q 14), .int p1, .int p2]) (n := 3) (Nat.le_of_ble_eq_true rfl)
  rw [lg_entry_eq]
  generalize (lg_sl ([.ref (q 14), .int p1, .int p2]) ++ List.replicate (3 - (lg_sl ([.ref (q 14), .int p1, .int p2])).length) Slot.unset).toArray = ls at hl ⊢
  have hl : lv_has ls 3 [(0, .ref (q 14)), (1, .int p1), (2, .int p2)] := hl
  have J31 : ∀ (Mh : Int32) (y0 : Int32), fX9_rootLength_J31 N Mn Mm Mt Mh y0 = some (r0, Mh9) → ∀ (H : Heap) (locs : List Loc), va_P D vwCl (w_14_15 q cI cJ cD Mh Mn Mm Mt) H → va_S (gA q [14, 15]) s.heap H locs → ∀ ls : Array Slot, lv_has ls 3 [] → W p l e (headSpec wsX9_rootLength rX9_rootLength).room s m ([.ref (q 14), .int p1, .int p2] : List Value).toArray below meth c H locs 0 0 (MQ below (gQ D (some (.int r0)) (w_14_15 q cI cJ cD Mh9 Mn Mm Mt) (gA q [14, 15])) ([.ref (q 14), .int p1, .int p2] : List Value).toArray s 0 0 (gA q [14, 15])) (F0 m 31 ls [.int y0]) := by
    intro Mh y0 hf H locs hP hS ls hl
    unfold fX9_rootLength_J31 at hf
    cases hf
    exact W.iret hx hb hr (fun t ht hW => ⟨⟨rfl, by rw [ht]; exact hP⟩, hS.F ht⟩) hS.2.2 dX9_rootLength_31
  have J15 : ∀ (Mh : Int32) (x1 : Int32) (x2 : Int32) (y1 : Int32), fX9_rootLength_J15 N Mn Mm Mt Mh x1 x2 y1 = some (r0, Mh9) → ∀ (H : Heap) (locs : List Loc), va_P D vwCl (w_14_15 q cI cJ cD Mh Mn Mm Mt) H → va_S (gA q [14, 15]) s.heap H locs → ∀ ls : Array Slot, lv_has ls 3 [(0, .ref (q 14)), (1, .int x1), (2, .int x2)] → W p l e (headSpec wsX9_rootLength rX9_rootLength).room s m ([.ref (q 14), .int p1, .int p2] : List Value).toArray below meth c H locs 0 0 (MQ below (gQ D (some (.int r0)) (w_14_15 q cI cJ cD Mh9 Mn Mm Mt) (gA q [14, 15])) ([.ref (q 14), .int p1, .int p2] : List Value).toArray s 0 0 (gA q [14, 15])) (F0 m 15 ls [.int y1, .ref (q 14)]) := by
    intro Mh x1 x2 y1 hf H locs hP hS ls hl
    unfold fX9_rootLength_J15 at hf
    obtain ⟨⟨r15, Mh15⟩, hc, hf⟩ := bn_some hf
    try dsimp only at hf
    refine g_call0 (ws' := (w_14_15 q cI cJ cD Mh15 Mn Mm Mt)) (st1 := [.int r15]) hq [14, 15] [14] [.inl 0, .inr 1] (va_runV (As := [.int y1]) (rest := []) ⟨hx, hb, hml, hown, hts⟩ (kX9_goesWell l D cI cJ cD q hq N Mh Mn Mm y1 r15 Mh15 hc) (cwV 1 hts gX9_rootLength_X9_goesWell rfl rfl rfl (by decide +kernel) ⟨(Nat.le_of_ble_eq_true rfl), (Nat.le_of_ble_eq_true rfl)⟩) ⟨gP_blind, va_recv hE.1 hP (ci := 7) (q0 := 0) rfl rfl, fun U hU hW => ⟨rfl, by rw [hU]; exact hP.sub (ws' := (w_14 q cI cJ cD Mh Mn Mm)) [0] rfl, gEv.warm hW hE⟩⟩ rfl rfl hl.1 rfl (lv_room (Nat.le_of_ble_eq_true rfl)) dX9_rootLength_15 ⟨Nat.zero_le _, Nat.zero_le _⟩) hP hS (gSub rfl) rfl rfl rfl rfl rfl (fun H locs hP hS => ?_)
    refine lv_if_eq (tgt := 30) hx hb dX9_rootLength_18 (by decide) (fun c_1 => ?_) (fun c_1 => ?_)
    · have hf := (if_pos c_1).symm.trans hf
      refine lv_iconst (v := (0 : Int32)) hx hb dX9_rootLength_30 (by decide) ?_
      exact J31 Mh15 (0 : Int32) hf _ _ hP hS _ (lv_sub hl [] rfl)
    · have hf := (if_neg c_1).symm.trans hf
      refine lv_aload_n hx hb dX9_rootLength_21 rfl (lv_at hl 0 rfl) ?_
      refine lv_iload_n hx hb dX9_rootLength_22 rfl (lv_at hl 1 rfl) ?_
      refine lv_iload_n hx hb dX9_rootLength_23 rfl (lv_at hl 2 rfl) ?_
      obtain ⟨r24, hc, hf⟩ := bn_some hf
      try dsimp only at hf
      refine g_call0 (ws' := (w_14_15 q cI cJ cD Mh15 Mn Mm Mt)) (st1 := [.int r24]) hq [14, 15] [14, 15] [.inl 0, .inl 1] (va_runV (As := [.int x1, .int x2]) (rest := []) ⟨hx, hb, hml, hown, hts⟩ (kX9_root l D cI cJ cD q hq N Mh15 Mn Mm Mt x1 x2 r24 hc) (cwV 2 hts gX9_rootLength_X9_root rfl rfl rfl (by decide +kernel) ⟨(Nat.le_of_ble_eq_true rfl), (Nat.le_of_ble_eq_true rfl)⟩) ⟨gP_blind, va_recv hE.1 hP (ci := 7) (q0 := 0) rfl rfl, fun U hU hW => ⟨rfl, by rw [hU]; exact hP.sub (ws' := (w_14_15 q cI cJ cD Mh15 Mn Mm Mt)) [0, 1] rfl, gEv.warm hW hE⟩⟩ rfl rfl hl.1 rfl (lv_room (Nat.le_of_ble_eq_true rfl)) dX9_rootLength_24 ⟨Nat.zero_le _, Nat.zero_le _⟩) hP hS (gSub rfl) rfl rfl rfl rfl rfl (fun H locs hP hS => ?_)
      refine lv_goto (tgt := 31) hx hb dX9_rootLength_27 (by decide) ?_
      exact J31 Mh15 r24 hf _ _ hP hS _ (lv_sub hl [] rfl)
  unfold fX9_rootLength at hf
  refine lv_aload_n hx hb dX9_rootLength_0 rfl (lv_at hl 0 rfl) ?_
  refine lv_aload_n hx hb dX9_rootLength_1 rfl (lv_at hl 0 rfl) ?_
  refine lv_iload_n hx hb dX9_rootLength_2 rfl (lv_at hl 1 rfl) ?_
  refine lv_iload_n hx hb dX9_rootLength_3 rfl (lv_at hl 2 rfl) ?_
  obtain ⟨r4, hc, hf⟩ := bn_some hf
  try dsimp only at hf
  refine g_call0 (ws' := (w_14_15 q cI cJ cD Mh Mn Mm Mt)) (st1 := [.int r4, .ref (q 14)]) hq [14, 15] [14] [.inl 0, .inr 1] (va_runV (As := [.int p1, .int p2]) (rest := [.ref (q 14)]) ⟨hx, hb, hml, hown, hts⟩ (kX9_isPart l D cI cJ cD q hq N Mh Mn Mm p1 p2 r4 hc) (cwV 2 hts gX9_rootLength_X9_isPart rfl rfl rfl (by decide +kernel) ⟨(Nat.le_of_ble_eq_true rfl), (Nat.le_of_ble_eq_true rfl)⟩) ⟨gP_blind, va_recv hE.1 hP (ci := 7) (q0 := 0) rfl rfl, fun U hU hW => ⟨rfl, by rw [hU]; exact hP.sub (ws' := (w_14 q cI cJ cD Mh Mn Mm)) [0] rfl, gEv.warm hW hE⟩⟩ rfl rfl hl.1 rfl (lv_room (Nat.le_of_ble_eq_true rfl)) dX9_rootLength_4 ⟨Nat.zero_le _, Nat.zero_le _⟩) hP hS (gSub rfl) rfl rfl rfl rfl rfl (fun H locs hP hS => ?_)
  refine lv_if_eq (tgt := 14) hx hb dX9_rootLength_7 (by decide) (fun c_2 => ?_) (fun c_2 => ?_)
  · have hf := (if_pos c_2).symm.trans hf
    refine lv_iconst (v := (1 : Int32)) hx hb dX9_rootLength_14 (by decide) ?_
    exact J15 Mh p1 p2 (1 : Int32) hf _ _ hP hS _ (lv_sub hl [0, 1, 2] rfl)
  · have hf := (if_neg c_2).symm.trans hf
    refine lv_iconst (v := (0 : Int32)) hx hb dX9_rootLength_10 (by decide) ?_
    refine lv_goto (tgt := 15) hx hb dX9_rootLength_11 (by decide) ?_
    exact J15 Mh p1 p2 (0 : Int32) hf _ _ hP hS _ (lv_sub hl [0, 1, 2] rfl)
set_option maxHeartbeats 4000000 in
set_option maxRecDepth 100000 in
theorem kX9_exponent (l : Launch) (D : va_G) (cI cJ cD : ClassId) (q : Nat → Nat) (hq : gInj q) (N : Nat) (Mh : Int32) (Mn : Int32) (Mm : Int32) (Mt : (Nat → Int32)) (p1 : Int32) (p2 : Int32) (r0 : UInt64) (Mh9 : Int32) (hf : fX9_exponent N Mh Mn Mm Mt p1 p2 = some (r0, Mh9)) : Met l yX9_exponent wsX9_exponent rX9_exponent (gP D cI cJ cD [.ref (q 14), .int p1, .int p2] (w_14_15 q cI cJ cD Mh Mn Mm Mt)) (gQ D (some (.double r0)) (w_14_15 q cI cJ cD Mh9 Mn Mm Mt) (gA q [14, 15])) 0 0 (gA q [14, 15]) := by
  refine Met.ofW (cc := cX9_exponent) (maxL := 3) (ret := (some .double)) (by decide +kernel) rfl ?_
  intro p e s m args below meth c s₁ B hml hv
  obtain ⟨rfl, hP, hE⟩ := hv
  have hx := B.exec
  have hb := B.bytes
  have hr := B.returns
  have hts := atoms_spec (ws := wsX9_exponent) B.pre
  have hown : s.vm.findClass RX9 = some m.cls := findClass_of_methodNamed B.named
  have hlocks := B.notSynchronized
  have hS : va_S (gA q [14, 15]) s.heap s.heap [] := va_S.rf
  have hl := lv_entry ([.ref (q 14), .int p1, .int p2]) (n := 3) (Nat.le_of_ble_eq_true rfl)
  rw [lg_entry_eq]
  generalize (lg_sl ([.ref (q 14), .int p1, .int p2]) ++ List.replicate (3 - (lg_sl ([.ref (q 14), .int p1, .int p2])).length) Slot.unset).toArray = ls at hl ⊢
  have hl : lv_has ls 3 [(0, .ref (q 14)), (1, .int p1), (2, .int p2)] := hl
  have J37 : ∀ (Mh : Int32) (y0 : UInt64), fX9_exponent_J37 N Mn Mm Mt Mh y0 = some (r0, Mh9) → ∀ (H : Heap) (locs : List Loc), va_P D vwCl (w_14_15 q cI cJ cD Mh Mn Mm Mt) H → va_S (gA q [14, 15]) s.heap H locs → ∀ ls : Array Slot, lv_has ls 3 [] → W p l e (headSpec wsX9_exponent rX9_exponent).room s m ([.ref (q 14), .int p1, .int p2] : List Value).toArray below meth c H locs 0 0 (MQ below (gQ D (some (.double r0)) (w_14_15 q cI cJ cD Mh9 Mn Mm Mt) (gA q [14, 15])) ([.ref (q 14), .int p1, .int p2] : List Value).toArray s 0 0 (gA q [14, 15])) (F0 m 37 ls [.double y0]) := by
    intro Mh y0 hf H locs hP hS ls hl
    unfold fX9_exponent_J37 at hf
    cases hf
    exact W.dret hx hb hr (fun t ht hW => ⟨⟨rfl, by rw [ht]; exact hP⟩, hS.F ht⟩) hS.2.2 dX9_exponent_37
  have J15 : ∀ (Mh : Int32) (x1 : Int32) (x2 : Int32) (y1 : Int32), fX9_exponent_J15 N Mn Mm Mt Mh x1 x2 y1 = some (r0, Mh9) → ∀ (H : Heap) (locs : List Loc), va_P D vwCl (w_14_15 q cI cJ cD Mh Mn Mm Mt) H → va_S (gA q [14, 15]) s.heap H locs → ∀ ls : Array Slot, lv_has ls 3 [(0, .ref (q 14)), (1, .int x1), (2, .int x2)] → W p l e (headSpec wsX9_exponent rX9_exponent).room s m ([.ref (q 14), .int p1, .int p2] : List Value).toArray below meth c H locs 0 0 (MQ below (gQ D (some (.double r0)) (w_14_15 q cI cJ cD Mh9 Mn Mm Mt) (gA q [14, 15])) ([.ref (q 14), .int p1, .int p2] : List Value).toArray s 0 0 (gA q [14, 15])) (F0 m 15 ls [.int y1, .ref (q 14)]) := by
    intro Mh x1 x2 y1 hf H locs hP hS ls hl
    unfold fX9_exponent_J15 at hf
    obtain ⟨⟨r15, Mh15⟩, hc, hf⟩ := bn_some hf
    try dsimp only at hf
    refine g_call0 (ws' := (w_14_15 q cI cJ cD Mh15 Mn Mm Mt)) (st1 := [.int r15]) hq [14, 15] [14] [.inl 0, .inr 1] (va_runV (As := [.int y1]) (rest := []) ⟨hx, hb, hml, hown, hts⟩ (kX9_goesWell l D cI cJ cD q hq N Mh Mn Mm y1 r15 Mh15 hc) (cwV 1 hts gX9_exponent_X9_goesWell rfl rfl rfl (by decide +kernel) ⟨(Nat.le_of_ble_eq_true rfl), (Nat.le_of_ble_eq_true rfl)⟩) ⟨gP_blind, va_recv hE.1 hP (ci := 7) (q0 := 0) rfl rfl, fun U hU hW => ⟨rfl, by rw [hU]; exact hP.sub (ws' := (w_14 q cI cJ cD Mh Mn Mm)) [0] rfl, gEv.warm hW hE⟩⟩ rfl rfl hl.1 rfl (lv_room (Nat.le_of_ble_eq_true rfl)) dX9_exponent_15 ⟨Nat.zero_le _, Nat.zero_le _⟩) hP hS (gSub rfl) rfl rfl rfl rfl rfl (fun H locs hP hS => ?_)
    refine lv_if_eq (tgt := 36) hx hb dX9_exponent_18 (by decide) (fun c_1 => ?_) (fun c_1 => ?_)
    · have hf := (if_pos c_1).symm.trans hf
      refine lv_dconst0 hx hb dX9_exponent_36 ?_
      exact J37 Mh15 FP.dconst0 hf _ _ hP hS _ (lv_sub hl [] rfl)
    · have hf := (if_neg c_1).symm.trans hf
      refine lv_iload_n hx hb dX9_exponent_21 rfl (lv_at hl 2 rfl) ?_
      refine lv_iload_n hx hb dX9_exponent_22 rfl (lv_at hl 1 rfl) ?_
      refine lv_isub hx hb dX9_exponent_23 ?_
      refine lv_i2d hx hb dX9_exponent_24 ?_
      refine lv_aload_n hx hb dX9_exponent_25 rfl (lv_at hl 0 rfl) ?_
      refine lv_iload_n hx hb dX9_exponent_26 rfl (lv_at hl 1 rfl) ?_
      refine lv_iload_n hx hb dX9_exponent_27 rfl (lv_at hl 2 rfl) ?_
      obtain ⟨r28, hc, hf⟩ := bn_some hf
      try dsimp only at hf
      refine g_call0 (ws' := (w_14_15 q cI cJ cD Mh15 Mn Mm Mt)) (st1 := [.int r28, .double (FP.i2d (x2 - x1))]) hq [14, 15] [14, 15] [.inl 0, .inl 1] (va_runV (As := [.int x1, .int x2]) (rest := [.double (FP.i2d (x2 - x1))]) ⟨hx, hb, hml, hown, hts⟩ (kX9_leastPeriod l D cI cJ cD q hq N Mh15 Mn Mm Mt x1 x2 r28 hc) (cwV 2 hts gX9_exponent_X9_leastPeriod rfl rfl rfl (by decide +kernel) ⟨(Nat.le_of_ble_eq_true rfl), (Nat.le_of_ble_eq_true rfl)⟩) ⟨gP_blind, va_recv hE.1 hP (ci := 7) (q0 := 0) rfl rfl, fun U hU hW => ⟨rfl, by rw [hU]; exact hP.sub (ws' := (w_14_15 q cI cJ cD Mh15 Mn Mm Mt)) [0, 1] rfl, gEv.warm hW hE⟩⟩ rfl rfl hl.1 rfl (lv_room (Nat.le_of_ble_eq_true rfl)) dX9_exponent_28 ⟨Nat.zero_le _, Nat.zero_le _⟩) hP hS (gSub rfl) rfl rfl rfl rfl rfl (fun H locs hP hS => ?_)
      refine lv_i2d hx hb dX9_exponent_31 ?_
      obtain ⟨g_2, hf⟩ := gd_some hf
      refine lv_ddiv hx hb dX9_exponent_32 (nonan_n g_2) ?_
      refine lv_goto (tgt := 37) hx hb dX9_exponent_33 (by decide) ?_
      exact J37 Mh15 (FP.ddiv (FP.i2d (x2 - x1)) (FP.i2d r28)) hf _ _ hP hS _ (lv_sub hl [] rfl)
  unfold fX9_exponent at hf
  refine lv_aload_n hx hb dX9_exponent_0 rfl (lv_at hl 0 rfl) ?_
  refine lv_aload_n hx hb dX9_exponent_1 rfl (lv_at hl 0 rfl) ?_
  refine lv_iload_n hx hb dX9_exponent_2 rfl (lv_at hl 1 rfl) ?_
  refine lv_iload_n hx hb dX9_exponent_3 rfl (lv_at hl 2 rfl) ?_
  obtain ⟨r4, hc, hf⟩ := bn_some hf
  try dsimp only at hf
  refine g_call0 (ws' := (w_14_15 q cI cJ cD Mh Mn Mm Mt)) (st1 := [.int r4, .ref (q 14)]) hq [14, 15] [14] [.inl 0, .inr 1] (va_runV (As := [.int p1, .int p2]) (rest := [.ref (q 14)]) ⟨hx, hb, hml, hown, hts⟩ (kX9_isPart l D cI cJ cD q hq N Mh Mn Mm p1 p2 r4 hc) (cwV 2 hts gX9_exponent_X9_isPart rfl rfl rfl (by decide +kernel) ⟨(Nat.le_of_ble_eq_true rfl), (Nat.le_of_ble_eq_true rfl)⟩) ⟨gP_blind, va_recv hE.1 hP (ci := 7) (q0 := 0) rfl rfl, fun U hU hW => ⟨rfl, by rw [hU]; exact hP.sub (ws' := (w_14 q cI cJ cD Mh Mn Mm)) [0] rfl, gEv.warm hW hE⟩⟩ rfl rfl hl.1 rfl (lv_room (Nat.le_of_ble_eq_true rfl)) dX9_exponent_4 ⟨Nat.zero_le _, Nat.zero_le _⟩) hP hS (gSub rfl) rfl rfl rfl rfl rfl (fun H locs hP hS => ?_)
  refine lv_if_eq (tgt := 14) hx hb dX9_exponent_7 (by decide) (fun c_3 => ?_) (fun c_3 => ?_)
  · have hf := (if_pos c_3).symm.trans hf
    refine lv_iconst (v := (1 : Int32)) hx hb dX9_exponent_14 (by decide) ?_
    exact J15 Mh p1 p2 (1 : Int32) hf _ _ hP hS _ (lv_sub hl [0, 1, 2] rfl)
  · have hf := (if_neg c_3).symm.trans hf
    refine lv_iconst (v := (0 : Int32)) hx hb dX9_exponent_10 (by decide) ?_
    refine lv_goto (tgt := 15) hx hb dX9_exponent_11 (by decide) ?_
    exact J15 Mh p1 p2 (0 : Int32) hf _ _ hP hS _ (lv_sub hl [0, 1, 2] rfl)
set_option maxHeartbeats 4000000 in
set_option maxRecDepth 100000 in
theorem kX9_layRuns (l : Launch) (D : va_G) (cI cJ cD : ClassId) (q : Nat → Nat) (hq : gInj q) (N : Nat) (Mh : Int32) (Mn : Int32) (Mm : Int32) (Mt : (Nat → Int32)) (Ms : (Nat → Int32)) (Me : (Nat → Int32)) (Mp : (Nat → Int32)) (Mm9 : Int32) (Ms9 : (Nat → Int32)) (Me9 : (Nat → Int32)) (Mp9 : (Nat → Int32)) (hf : fX9_layRuns N Mh Mn Mm Mt Ms Me Mp = some (Mm9, Ms9, Me9, Mp9)) : Met l yX9_layRuns wsX9_layRuns rX9_layRuns (gP D cI cJ cD [.ref (q 14)] (w_14_15_17_18_19 q cI cJ cD Mh Mn Mm Mt Ms Me Mp)) (gQ D none (w_14_15_17_18_19 q cI cJ cD Mh Mn Mm9 Mt Ms9 Me9 Mp9) (gA q [14, 15, 17, 18, 19])) 0 0 (gA q [14, 15, 17, 18, 19]) := by
  refine Met.ofW (cc := cX9_layRuns) (maxL := 5) (ret := none) (by decide +kernel) rfl ?_
  intro p e s m args below meth c s₁ B hml hv
  obtain ⟨rfl, hP, hE⟩ := hv
  have hx := B.exec
  have hb := B.bytes
  have hr := B.returns
  have hts := atoms_spec (ws := wsX9_layRuns) B.pre
  have hown : s.vm.findClass RX9 = some m.cls := findClass_of_methodNamed B.named
  have hlocks := B.notSynchronized
  have hS : va_S (gA q [14, 15, 17, 18, 19]) s.heap s.heap [] := va_S.rf
  have hl := lv_entry ([.ref (q 14)]) (n := 5) (Nat.le_of_ble_eq_true rfl)
  rw [lg_entry_eq]
  generalize (lg_sl ([.ref (q 14)]) ++ List.replicate (5 - (lg_sl ([.ref (q 14)])).length) Slot.unset).toArray = ls at hl ⊢
  have hl : lv_has ls 5 [(0, .ref (q 14))] := hl
  have hDm : ∀ (z0 : Int32) (z1 : Int32) (z2 : Int32) (z3 : (Nat → Int32)) (z4 : (Nat → Int32)) (z5 : (Nat → Int32)) (z6 : (Nat → Int32)), va_D (gA q [14, 15, 17, 18, 19]) (w_14_15_17_18_19 q cI cJ cD z0 z1 z2 z3 z4 z5 z6) := fun _ _ _ _ _ _ _ => gD_of hq [14, 15, 17, 18, 19] rfl rfl rfl (fun k h => ⟨k, h, rfl⟩)
  have hk130 := hts (.fieldLink RX9 130 "LyndonTextModel" "runMany" "I") (by decide +kernel)
  have hk39 := hts (.fieldLink RX9 39 "LyndonTextModel" "length" "I") (by decide +kernel)
  have hk7 := hts (.fieldLink RX9 7 "LyndonTextModel" "text" "[I") (by decide +kernel)
  have hk16 := hts (.fieldLink RX9 16 "LyndonTextModel" "starts" "[I") (by decide +kernel)
  have hk19 := hts (.fieldLink RX9 19 "LyndonTextModel" "ends" "[I") (by decide +kernel)
  have hk22 := hts (.fieldLink RX9 22 "LyndonTextModel" "runPeriods" "[I") (by decide +kernel)
  have huX9 : ∀ w ∈ u_ws RX9 TX9 11, w ∈ wsX9_layRuns := by decide +kernel
  have J158 : ∀ (Mm : Int32) (Ms : (Nat → Int32)) (Me : (Nat → Int32)) (Mp : (Nat → Int32)), fX9_layRuns_J158 N Mh Mn Mt Mm Ms Me Mp = some (Mm9, Ms9, Me9, Mp9) → ∀ (H : Heap) (locs : List Loc), va_P D vwCl (w_14_15_17_18_19 q cI cJ cD Mh Mn Mm Mt Ms Me Mp) H → va_S (gA q [14, 15, 17, 18, 19]) s.heap H locs → ∀ ls : Array Slot, lv_has ls 5 [] → W p l e (headSpec wsX9_layRuns rX9_layRuns).room s m ([.ref (q 14)] : List Value).toArray below meth c H locs 0 0 (MQ below (gQ D none (w_14_15_17_18_19 q cI cJ cD Mh Mn Mm9 Mt Ms9 Me9 Mp9) (gA q [14, 15, 17, 18, 19])) ([.ref (q 14)] : List Value).toArray s 0 0 (gA q [14, 15, 17, 18, 19])) (F0 m 158 ls []) := by
    intro Mm Ms Me Mp hf H locs hP hS ls hl
    unfold fX9_layRuns_J158 at hf
    cases hf
    exact W.vret hx hb hr (fun t ht hW => ⟨⟨rfl, by rw [ht]; exact hP⟩, hS.F ht⟩) hS.2.2 dX9_layRuns_158
  have K7 : ∀ (n7 : Nat) (Mm : Int32) (Ms : (Nat → Int32)) (Me : (Nat → Int32)) (Mp : (Nat → Int32)) (x1 : Int32), fX9_layRuns_H7 N Mh Mn Mt n7 Mm Ms Me Mp x1 = some (Mm9, Ms9, Me9, Mp9) → ∀ (H : Heap) (locs : List Loc), va_P D vwCl (w_14_15_17_18_19 q cI cJ cD Mh Mn Mm Mt Ms Me Mp) H → va_S (gA q [14, 15, 17, 18, 19]) s.heap H locs → ∀ ls : Array Slot, lv_has ls 5 [(0, .ref (q 14)), (1, .int x1)] → W p l e (headSpec wsX9_layRuns rX9_layRuns).room s m ([.ref (q 14)] : List Value).toArray below meth c H locs 0 0 (MQ below (gQ D none (w_14_15_17_18_19 q cI cJ cD Mh Mn Mm9 Mt Ms9 Me9 Mp9) (gA q [14, 15, 17, 18, 19])) ([.ref (q 14)] : List Value).toArray s 0 0 (gA q [14, 15, 17, 18, 19])) (F0 m 7 ls []) := by
    intro n7
    induction n7 with
    | zero =>
      intro Mm Ms Me Mp x1 hf
      exact nomatch (show (none : Option (Int32 × (Nat → Int32) × (Nat → Int32) × (Nat → Int32))) = some (Mm9, Ms9, Me9, Mp9) from hf)
    | succ n7 ih7 =>
      have J152 : ∀ (Mm : Int32) (Ms : (Nat → Int32)) (Me : (Nat → Int32)) (Mp : (Nat → Int32)) (x1 : Int32), fX9_layRuns_J152 N Mh Mn Mt (fX9_layRuns_H7 N Mh Mn Mt n7) Mm Ms Me Mp x1 = some (Mm9, Ms9, Me9, Mp9) → ∀ (H : Heap) (locs : List Loc), va_P D vwCl (w_14_15_17_18_19 q cI cJ cD Mh Mn Mm Mt Ms Me Mp) H → va_S (gA q [14, 15, 17, 18, 19]) s.heap H locs → ∀ ls : Array Slot, lv_has ls 5 [(0, .ref (q 14)), (1, .int x1)] → W p l e (headSpec wsX9_layRuns rX9_layRuns).room s m ([.ref (q 14)] : List Value).toArray below meth c H locs 0 0 (MQ below (gQ D none (w_14_15_17_18_19 q cI cJ cD Mh Mn Mm9 Mt Ms9 Me9 Mp9) (gA q [14, 15, 17, 18, 19])) ([.ref (q 14)] : List Value).toArray s 0 0 (gA q [14, 15, 17, 18, 19])) (F0 m 152 ls []) := by
        intro Mm Ms Me Mp x1 hf H locs hP hS ls hl
        unfold fX9_layRuns_J152 at hf
        refine lv_iinc (v := (x1 + 1)) (lv' := [(1, .int (x1 + 1)), (0, .ref (q 14))]) hx hb dX9_layRuns_152 hl (k := 1) rfl rfl (by decide) rfl (fun ls hl => ?_)
        refine lv_goto (tgt := 7) hx hb dX9_layRuns_155 (by decide) ?_
        exact ih7 Mm Ms Me Mp (x1 + 1) hf _ _ hP hS _ (lv_sub hl [1, 0] rfl)
      have K17 : ∀ (n17 : Nat) (Mm : Int32) (Ms : (Nat → Int32)) (Me : (Nat → Int32)) (Mp : (Nat → Int32)) (x1 : Int32) (x2 : Int32), fX9_layRuns_H17 N Mh Mn Mt (fX9_layRuns_H7 N Mh Mn Mt n7) n17 Mm Ms Me Mp x1 x2 = some (Mm9, Ms9, Me9, Mp9) → ∀ (H : Heap) (locs : List Loc), va_P D vwCl (w_14_15_17_18_19 q cI cJ cD Mh Mn Mm Mt Ms Me Mp) H → va_S (gA q [14, 15, 17, 18, 19]) s.heap H locs → ∀ ls : Array Slot, lv_has ls 5 [(0, .ref (q 14)), (1, .int x1), (2, .int x2)] → W p l e (headSpec wsX9_layRuns rX9_layRuns).room s m ([.ref (q 14)] : List Value).toArray below meth c H locs 0 0 (MQ below (gQ D none (w_14_15_17_18_19 q cI cJ cD Mh Mn Mm9 Mt Ms9 Me9 Mp9) (gA q [14, 15, 17, 18, 19])) ([.ref (q 14)] : List Value).toArray s 0 0 (gA q [14, 15, 17, 18, 19])) (F0 m 17 ls []) := by
        intro n17
        induction n17 with
        | zero =>
          intro Mm Ms Me Mp x1 x2 hf
          exact nomatch (show (none : Option (Int32 × (Nat → Int32) × (Nat → Int32) × (Nat → Int32))) = some (Mm9, Ms9, Me9, Mp9) from hf)
        | succ n17 ih17 =>
          have J146 : ∀ (Mm : Int32) (Ms : (Nat → Int32)) (Me : (Nat → Int32)) (Mp : (Nat → Int32)) (x1 : Int32) (x2 : Int32), fX9_layRuns_J146 N Mh Mn Mt (fX9_layRuns_H7 N Mh Mn Mt n7) (fX9_layRuns_H17 N Mh Mn Mt (fX9_layRuns_H7 N Mh Mn Mt n7) n17) Mm Ms Me Mp x1 x2 = some (Mm9, Ms9, Me9, Mp9) → ∀ (H : Heap) (locs : List Loc), va_P D vwCl (w_14_15_17_18_19 q cI cJ cD Mh Mn Mm Mt Ms Me Mp) H → va_S (gA q [14, 15, 17, 18, 19]) s.heap H locs → ∀ ls : Array Slot, lv_has ls 5 [(0, .ref (q 14)), (1, .int x1), (2, .int x2)] → W p l e (headSpec wsX9_layRuns rX9_layRuns).room s m ([.ref (q 14)] : List Value).toArray below meth c H locs 0 0 (MQ below (gQ D none (w_14_15_17_18_19 q cI cJ cD Mh Mn Mm9 Mt Ms9 Me9 Mp9) (gA q [14, 15, 17, 18, 19])) ([.ref (q 14)] : List Value).toArray s 0 0 (gA q [14, 15, 17, 18, 19])) (F0 m 146 ls []) := by
            intro Mm Ms Me Mp x1 x2 hf H locs hP hS ls hl
            unfold fX9_layRuns_J146 at hf
            refine lv_iinc (v := (x2 + 1)) (lv' := [(2, .int (x2 + 1)), (0, .ref (q 14)), (1, .int x1)]) hx hb dX9_layRuns_146 hl (k := 2) rfl rfl (by decide) rfl (fun ls hl => ?_)
            refine lv_goto (tgt := 17) hx hb dX9_layRuns_149 (by decide) ?_
            exact ih17 Mm Ms Me Mp x1 (x2 + 1) hf _ _ hP hS _ (lv_sub hl [1, 2, 0] rfl)
          have J80 : ∀ (Mm : Int32) (Ms : (Nat → Int32)) (Me : (Nat → Int32)) (Mp : (Nat → Int32)) (x1 : Int32) (x2 : Int32) (x3 : Int32) (y0 : Int32), fX9_layRuns_J80 N Mh Mn Mt (fX9_layRuns_H7 N Mh Mn Mt n7) (fX9_layRuns_H17 N Mh Mn Mt (fX9_layRuns_H7 N Mh Mn Mt n7) n17) Mm Ms Me Mp x1 x2 x3 y0 = some (Mm9, Ms9, Me9, Mp9) → ∀ (H : Heap) (locs : List Loc), va_P D vwCl (w_14_15_17_18_19 q cI cJ cD Mh Mn Mm Mt Ms Me Mp) H → va_S (gA q [14, 15, 17, 18, 19]) s.heap H locs → ∀ ls : Array Slot, lv_has ls 5 [(0, .ref (q 14)), (1, .int x1), (2, .int x2), (3, .int x3)] → W p l e (headSpec wsX9_layRuns rX9_layRuns).room s m ([.ref (q 14)] : List Value).toArray below meth c H locs 0 0 (MQ below (gQ D none (w_14_15_17_18_19 q cI cJ cD Mh Mn Mm9 Mt Ms9 Me9 Mp9) (gA q [14, 15, 17, 18, 19])) ([.ref (q 14)] : List Value).toArray s 0 0 (gA q [14, 15, 17, 18, 19])) (F0 m 80 ls [.int y0]) := by
            intro Mm Ms Me Mp x1 x2 x3 y0 hf H locs hP hS ls hl
            unfold fX9_layRuns_J80 at hf
            refine lv_istore (lv' := [(4, .int y0), (0, .ref (q 14)), (1, .int x1), (2, .int x2), (3, .int x3)]) hx hb dX9_layRuns_80 hl (by decide) rfl (fun ls hl => ?_)
            refine lv_iload_n hx hb dX9_layRuns_82 rfl (lv_at hl 4 rfl) ?_
            refine lv_iload_n hx hb dX9_layRuns_83 rfl (lv_at hl 2 rfl) ?_
            refine lv_isub hx hb dX9_layRuns_84 ?_
            refine lv_iconst (v := (2 : Int32)) hx hb dX9_layRuns_85 (by decide) ?_
            refine lv_iload_n hx hb dX9_layRuns_86 rfl (lv_at hl 3 rfl) ?_
            refine lv_imul hx hb dX9_layRuns_87 ?_
            refine lv_icmp_lt (tgt := 146) hx hb dX9_layRuns_88 (by decide) (fun c_1 => ?_) (fun c_1 => ?_)
            · have hf := (if_pos c_1).symm.trans hf
              exact J146 Mm Ms Me Mp x1 x2 hf _ _ hP hS _ (lv_sub hl [1, 2, 3] rfl)
            · have hf := (if_neg c_1).symm.trans hf
              refine lv_iload hx hb dX9_layRuns_91 (lv_at hl 0 rfl) ?_
              refine lv_if_ne (tgt := 146) hx hb dX9_layRuns_93 (by decide) (fun c_2 => ?_) (fun c_2 => ?_)
              · have hf := (if_neg c_2).symm.trans hf
                exact J146 Mm Ms Me Mp x1 x2 hf _ _ hP hS _ (lv_sub hl [1, 2, 3] rfl)
              · have hf := (if_pos c_2).symm.trans hf
                refine lv_aload_n hx hb dX9_layRuns_96 rfl (lv_at hl 1 rfl) ?_
                refine lv_iload_n hx hb dX9_layRuns_97 rfl (lv_at hl 2 rfl) ?_
                refine lv_iload_n hx hb dX9_layRuns_98 rfl (lv_at hl 4 rfl) ?_
                obtain ⟨r99, hc, hf⟩ := bn_some hf
                try dsimp only at hf
                refine g_call0 (ws' := (w_14_15_17_18_19 q cI cJ cD Mh Mn Mm Mt Ms Me Mp)) (st1 := [.int r99]) hq [14, 15, 17, 18, 19] [14, 15] [.inl 0, .inl 1, .inr 2, .inr 3, .inr 4] (va_runV (As := [.int x1, .int x3]) (rest := []) ⟨hx, hb, hml, hown, hts⟩ (kX9_leastPeriod l D cI cJ cD q hq N Mh Mn Mm Mt x1 x3 r99 hc) (cwV 2 hts gX9_layRuns_X9_leastPeriod rfl rfl rfl (by decide +kernel) ⟨(Nat.le_of_ble_eq_true rfl), (Nat.le_of_ble_eq_true rfl)⟩) ⟨gP_blind, va_recv hE.1 hP (ci := 7) (q0 := 0) rfl rfl, fun U hU hW => ⟨rfl, by rw [hU]; exact hP.sub (ws' := (w_14_15 q cI cJ cD Mh Mn Mm Mt)) [0, 1] rfl, gEv.warm hW hE⟩⟩ rfl rfl hl.1 rfl (lv_room (Nat.le_of_ble_eq_true rfl)) dX9_layRuns_99 ⟨Nat.zero_le _, Nat.zero_le _⟩) hP hS (gSub rfl) rfl rfl rfl rfl rfl (fun H locs hP hS => ?_)
                refine lv_iload_n hx hb dX9_layRuns_102 rfl (lv_at hl 3 rfl) ?_
                refine lv_icmp_ne (tgt := 146) hx hb dX9_layRuns_103 (by decide) (fun c_3 => ?_) (fun c_3 => ?_)
                · have hf := (if_neg c_3).symm.trans hf
                  exact J146 Mm Ms Me Mp x1 x2 hf _ _ hP hS _ (lv_sub hl [1, 2, 3] rfl)
                · have hf := (if_pos c_3).symm.trans hf
                  refine lv_aload_n hx hb dX9_layRuns_106 rfl (lv_at hl 1 rfl) ?_
                  refine va_get (D := D) (ci := 7) (v := .ref (q 17)) (C := RX9) (T := TX9) (N := 11) hx hb hts huX9 hown hE.1 hP 0 rfl rfl 4 (by decide) hk16 (fun _ h9 => h9) rfl dX9_layRuns_107 ?_
                  refine lv_aload_n hx hb dX9_layRuns_110 rfl (lv_at hl 1 rfl) ?_
                  refine va_get (D := D) (ci := 7) (v := .int Mm) (C := RX9) (T := TX9) (N := 11) hx hb hts huX9 hown hE.1 hP 0 rfl rfl 7 (by decide) hk130 (fun _ h9 => h9) rfl dX9_layRuns_111 ?_
                  refine lv_iload_n hx hb dX9_layRuns_114 rfl (lv_at hl 2 rfl) ?_
                  obtain ⟨g_4, hf⟩ := gd_some hf
                  refine va_iast hx hb hE.1 hP (hDm Mh Mn Mm Mt Ms Me Mp) hS 2 0 rfl rfl (inb_in g_4) dX9_layRuns_115 (fun H locs hP _ hS => ?_)
                  have hP : va_P D vwCl (w_14_15_17_18_19 q cI cJ cD Mh Mn Mm Mt (upd Ms (Mm).toNatClampNeg x1) Me Mp) H := hP
                  refine lv_aload_n hx hb dX9_layRuns_116 rfl (lv_at hl 1 rfl) ?_
                  refine va_get (D := D) (ci := 7) (v := .ref (q 18)) (C := RX9) (T := TX9) (N := 11) hx hb hts huX9 hown hE.1 hP 0 rfl rfl 5 (by decide) hk19 (fun _ h9 => h9) rfl dX9_layRuns_117 ?_
                  refine lv_aload_n hx hb dX9_layRuns_120 rfl (lv_at hl 1 rfl) ?_
                  refine va_get (D := D) (ci := 7) (v := .int Mm) (C := RX9) (T := TX9) (N := 11) hx hb hts huX9 hown hE.1 hP 0 rfl rfl 7 (by decide) hk130 (fun _ h9 => h9) rfl dX9_layRuns_121 ?_
                  refine lv_iload_n hx hb dX9_layRuns_124 rfl (lv_at hl 4 rfl) ?_
                  obtain ⟨g_5, hf⟩ := gd_some hf
                  refine va_iast hx hb hE.1 hP (hDm Mh Mn Mm Mt (upd Ms (Mm).toNatClampNeg x1) Me Mp) hS 3 0 rfl rfl (inb_in g_5) dX9_layRuns_125 (fun H locs hP _ hS => ?_)
                  have hP : va_P D vwCl (w_14_15_17_18_19 q cI cJ cD Mh Mn Mm Mt (upd Ms (Mm).toNatClampNeg x1) (upd Me (Mm).toNatClampNeg x3) Mp) H := hP
                  refine lv_aload_n hx hb dX9_layRuns_126 rfl (lv_at hl 1 rfl) ?_
                  refine va_get (D := D) (ci := 7) (v := .ref (q 19)) (C := RX9) (T := TX9) (N := 11) hx hb hts huX9 hown hE.1 hP 0 rfl rfl 6 (by decide) hk22 (fun _ h9 => h9) rfl dX9_layRuns_127 ?_
                  refine lv_aload_n hx hb dX9_layRuns_130 rfl (lv_at hl 1 rfl) ?_
                  refine va_get (D := D) (ci := 7) (v := .int Mm) (C := RX9) (T := TX9) (N := 11) hx hb hts huX9 hown hE.1 hP 0 rfl rfl 7 (by decide) hk130 (fun _ h9 => h9) rfl dX9_layRuns_131 ?_
                  refine lv_iload_n hx hb dX9_layRuns_134 rfl (lv_at hl 3 rfl) ?_
                  obtain ⟨g_6, hf⟩ := gd_some hf
                  refine va_iast hx hb hE.1 hP (hDm Mh Mn Mm Mt (upd Ms (Mm).toNatClampNeg x1) (upd Me (Mm).toNatClampNeg x3) Mp) hS 4 0 rfl rfl (inb_in g_6) dX9_layRuns_135 (fun H locs hP _ hS => ?_)
                  have hP : va_P D vwCl (w_14_15_17_18_19 q cI cJ cD Mh Mn Mm Mt (upd Ms (Mm).toNatClampNeg x1) (upd Me (Mm).toNatClampNeg x3) (upd Mp (Mm).toNatClampNeg x2)) H := hP
                  refine lv_aload_n hx hb dX9_layRuns_136 rfl (lv_at hl 1 rfl) ?_
                  refine lv_dup hx hb dX9_layRuns_137 rfl ?_
                  refine va_get (D := D) (ci := 7) (v := .int Mm) (C := RX9) (T := TX9) (N := 11) hx hb hts huX9 hown hE.1 hP 0 rfl rfl 7 (by decide) hk130 (fun _ h9 => h9) rfl dX9_layRuns_138 ?_
                  refine lv_iconst (v := (1 : Int32)) hx hb dX9_layRuns_141 (by decide) ?_
                  refine lv_iadd hx hb dX9_layRuns_142 ?_
                  refine va_put (D := D) (ci := 7) (v := .int (Mm + (1 : Int32))) (ty := .int) (C := RX9) (T := TX9) (N := 11) hx hb hts huX9 tyX9 tyX9_ok nmX9 hown hE.1 hP (hDm Mh Mn Mm Mt (upd Ms (Mm).toNatClampNeg x1) (upd Me (Mm).toNatClampNeg x3) (upd Mp (Mm).toNatClampNeg x2)) hS 0 rfl rfl 7 (by decide) hk130 (fun _ h9 => h9) rfl (by decide +kernel) rfl rfl (Nat.le_of_ble_eq_true rfl) dX9_layRuns_143 (fun H locs hP _ hS => ?_)
                  have hP : va_P D vwCl (w_14_15_17_18_19 q cI cJ cD Mh Mn (Mm + (1 : Int32)) Mt (upd Ms (Mm).toNatClampNeg x1) (upd Me (Mm).toNatClampNeg x3) (upd Mp (Mm).toNatClampNeg x2)) H := hP
                  exact J146 (Mm + (1 : Int32)) (upd Ms (Mm).toNatClampNeg x1) (upd Me (Mm).toNatClampNeg x3) (upd Mp (Mm).toNatClampNeg x2) x1 x2 hf _ _ hP hS _ (lv_sub hl [1, 2, 3] rfl)
          have J79 : ∀ (Mm : Int32) (Ms : (Nat → Int32)) (Me : (Nat → Int32)) (Mp : (Nat → Int32)) (x1 : Int32) (x2 : Int32) (x3 : Int32), fX9_layRuns_J79 N Mh Mn Mt (fX9_layRuns_H7 N Mh Mn Mt n7) (fX9_layRuns_H17 N Mh Mn Mt (fX9_layRuns_H7 N Mh Mn Mt n7) n17) Mm Ms Me Mp x1 x2 x3 = some (Mm9, Ms9, Me9, Mp9) → ∀ (H : Heap) (locs : List Loc), va_P D vwCl (w_14_15_17_18_19 q cI cJ cD Mh Mn Mm Mt Ms Me Mp) H → va_S (gA q [14, 15, 17, 18, 19]) s.heap H locs → ∀ ls : Array Slot, lv_has ls 5 [(0, .ref (q 14)), (1, .int x1), (2, .int x2), (3, .int x3)] → W p l e (headSpec wsX9_layRuns rX9_layRuns).room s m ([.ref (q 14)] : List Value).toArray below meth c H locs 0 0 (MQ below (gQ D none (w_14_15_17_18_19 q cI cJ cD Mh Mn Mm9 Mt Ms9 Me9 Mp9) (gA q [14, 15, 17, 18, 19])) ([.ref (q 14)] : List Value).toArray s 0 0 (gA q [14, 15, 17, 18, 19])) (F0 m 79 ls []) := by
            intro Mm Ms Me Mp x1 x2 x3 hf H locs hP hS ls hl
            unfold fX9_layRuns_J79 at hf
            refine lv_iconst (v := (0 : Int32)) hx hb dX9_layRuns_79 (by decide) ?_
            exact J80 Mm Ms Me Mp x1 x2 x3 (0 : Int32) hf _ _ hP hS _ (lv_sub hl [0, 1, 2, 3] rfl)
          intro Mm Ms Me Mp x1 x2 hf H locs hP hS ls hl
          have hf : fX9_layRuns_B17 N Mh Mn Mt (fX9_layRuns_H7 N Mh Mn Mt n7) (fX9_layRuns_H17 N Mh Mn Mt (fX9_layRuns_H7 N Mh Mn Mt n7) n17) Mm Ms Me Mp x1 x2 = some (Mm9, Ms9, Me9, Mp9) := hf
          unfold fX9_layRuns_B17 at hf
          refine lv_iload_n hx hb dX9_layRuns_17 rfl (lv_at hl 1 rfl) ?_
          refine lv_iconst (v := (2 : Int32)) hx hb dX9_layRuns_18 (by decide) ?_
          refine lv_iload_n hx hb dX9_layRuns_19 rfl (lv_at hl 2 rfl) ?_
          refine lv_imul hx hb dX9_layRuns_20 ?_
          refine lv_iadd hx hb dX9_layRuns_21 ?_
          refine lv_aload_n hx hb dX9_layRuns_22 rfl (lv_at hl 0 rfl) ?_
          refine va_get (D := D) (ci := 7) (v := .int Mn) (C := RX9) (T := TX9) (N := 11) hx hb hts huX9 hown hE.1 hP 0 rfl rfl 1 (by decide) hk39 (fun _ h9 => h9) rfl dX9_layRuns_23 ?_
          refine lv_icmp_gt (tgt := 152) hx hb dX9_layRuns_26 (by decide) (fun c_7 => ?_) (fun c_7 => ?_)
          · have hf := (if_pos c_7).symm.trans hf
            exact J152 Mm Ms Me Mp x1 hf _ _ hP hS _ (lv_sub hl [0, 1] rfl)
          · have hf := (if_neg c_7).symm.trans hf
            refine lv_iload_n hx hb dX9_layRuns_29 rfl (lv_at hl 1 rfl) ?_
            refine lv_iload_n hx hb dX9_layRuns_30 rfl (lv_at hl 2 rfl) ?_
            refine lv_iadd hx hb dX9_layRuns_31 ?_
            refine lv_aload_n hx hb dX9_layRuns_32 rfl (lv_at hl 0 rfl) ?_
            refine lv_iload_n hx hb dX9_layRuns_33 rfl (lv_at hl 1 rfl) ?_
            refine lv_aload_n hx hb dX9_layRuns_34 rfl (lv_at hl 0 rfl) ?_
            refine va_get (D := D) (ci := 7) (v := .int Mn) (C := RX9) (T := TX9) (N := 11) hx hb hts huX9 hown hE.1 hP 0 rfl rfl 1 (by decide) hk39 (fun _ h9 => h9) rfl dX9_layRuns_35 ?_
            refine lv_iload_n hx hb dX9_layRuns_38 rfl (lv_at hl 1 rfl) ?_
            refine lv_iload_n hx hb dX9_layRuns_39 rfl (lv_at hl 2 rfl) ?_
            refine lv_iadd hx hb dX9_layRuns_40 ?_
            refine lv_aload_n hx hb dX9_layRuns_41 rfl (lv_at hl 0 rfl) ?_
            refine va_get (D := D) (ci := 7) (v := .int Mn) (C := RX9) (T := TX9) (N := 11) hx hb hts huX9 hown hE.1 hP 0 rfl rfl 1 (by decide) hk39 (fun _ h9 => h9) rfl dX9_layRuns_42 ?_
            obtain ⟨r45, hc, hf⟩ := bn_some hf
            try dsimp only at hf
            refine g_call0 (ws' := (w_14_15_17_18_19 q cI cJ cD Mh Mn Mm Mt Ms Me Mp)) (st1 := [.int r45, .int (x1 + x2)]) hq [14, 15, 17, 18, 19] [14, 15] [.inl 0, .inl 1, .inr 2, .inr 3, .inr 4] (va_runV (As := [.int x1, .int Mn, .int (x1 + x2), .int Mn]) (rest := [.int (x1 + x2)]) ⟨hx, hb, hml, hown, hts⟩ (kX9_same l D cI cJ cD q hq N Mh Mn Mm Mt x1 Mn (x1 + x2) Mn r45 hc) (cwV 4 hts gX9_layRuns_X9_same rfl rfl rfl (by decide +kernel) ⟨(Nat.le_of_ble_eq_true rfl), (Nat.le_of_ble_eq_true rfl)⟩) ⟨gP_blind, va_recv hE.1 hP (ci := 7) (q0 := 0) rfl rfl, fun U hU hW => ⟨rfl, by rw [hU]; exact hP.sub (ws' := (w_14_15 q cI cJ cD Mh Mn Mm Mt)) [0, 1] rfl, gEv.warm hW hE⟩⟩ rfl rfl hl.1 rfl (lv_room (Nat.le_of_ble_eq_true rfl)) dX9_layRuns_45 ⟨Nat.zero_le _, Nat.zero_le _⟩) hP hS (gSub rfl) rfl rfl rfl rfl rfl (fun H locs hP hS => ?_)
            refine lv_iadd hx hb dX9_layRuns_48 ?_
            refine lv_istore_n (lv' := [(3, .int ((x1 + x2) + r45)), (0, .ref (q 14)), (1, .int x1), (2, .int x2)]) hx hb dX9_layRuns_49 rfl hl (by decide) rfl (fun ls hl => ?_)
            refine lv_iload_n hx hb dX9_layRuns_50 rfl (lv_at hl 2 rfl) ?_
            refine lv_if_le (tgt := 79) hx hb dX9_layRuns_51 (by decide) (fun c_8 => ?_) (fun c_8 => ?_)
            · have hf := (if_pos c_8).symm.trans hf
              exact J79 Mm Ms Me Mp x1 x2 ((x1 + x2) + r45) hf _ _ hP hS _ (lv_sub hl [1, 2, 3, 0] rfl)
            · have hf := (if_neg c_8).symm.trans hf
              refine lv_aload_n hx hb dX9_layRuns_54 rfl (lv_at hl 1 rfl) ?_
              refine va_get (D := D) (ci := 7) (v := .ref (q 15)) (C := RX9) (T := TX9) (N := 11) hx hb hts huX9 hown hE.1 hP 0 rfl rfl 2 (by decide) hk7 (fun _ h9 => h9) rfl dX9_layRuns_55 ?_
              refine lv_iload_n hx hb dX9_layRuns_58 rfl (lv_at hl 2 rfl) ?_
              refine lv_iconst (v := (1 : Int32)) hx hb dX9_layRuns_59 (by decide) ?_
              refine lv_isub hx hb dX9_layRuns_60 ?_
              obtain ⟨g_9, hf⟩ := gd_some hf
              refine va_iald hx hb hE.1 hP 1 0 rfl rfl (inb_in g_9) dX9_layRuns_61 ?_
              refine lv_aload_n hx hb dX9_layRuns_62 rfl (lv_at hl 1 rfl) ?_
              refine va_get (D := D) (ci := 7) (v := .ref (q 15)) (C := RX9) (T := TX9) (N := 11) hx hb hts huX9 hown hE.1 hP 0 rfl rfl 2 (by decide) hk7 (fun _ h9 => h9) rfl dX9_layRuns_63 ?_
              refine lv_iload_n hx hb dX9_layRuns_66 rfl (lv_at hl 2 rfl) ?_
              refine lv_iconst (v := (1 : Int32)) hx hb dX9_layRuns_67 (by decide) ?_
              refine lv_isub hx hb dX9_layRuns_68 ?_
              refine lv_iload_n hx hb dX9_layRuns_69 rfl (lv_at hl 3 rfl) ?_
              refine lv_iadd hx hb dX9_layRuns_70 ?_
              obtain ⟨g_10, hf⟩ := gd_some hf
              refine va_iald hx hb hE.1 hP 1 0 rfl rfl (inb_in g_10) dX9_layRuns_71 ?_
              refine lv_icmp_ne (tgt := 79) hx hb dX9_layRuns_72 (by decide) (fun c_11 => ?_) (fun c_11 => ?_)
              · have hf := (if_neg c_11).symm.trans hf
                exact J79 Mm Ms Me Mp x1 x2 ((x1 + x2) + r45) hf _ _ hP hS _ (lv_sub hl [1, 2, 3, 0] rfl)
              · have hf := (if_pos c_11).symm.trans hf
                refine lv_iconst (v := (1 : Int32)) hx hb dX9_layRuns_75 (by decide) ?_
                refine lv_goto (tgt := 80) hx hb dX9_layRuns_76 (by decide) ?_
                exact J80 Mm Ms Me Mp x1 x2 ((x1 + x2) + r45) (1 : Int32) hf _ _ hP hS _ (lv_sub hl [1, 2, 3, 0] rfl)
      intro Mm Ms Me Mp x1 hf H locs hP hS ls hl
      have hf : fX9_layRuns_B7 N Mh Mn Mt (fX9_layRuns_H7 N Mh Mn Mt n7) Mm Ms Me Mp x1 = some (Mm9, Ms9, Me9, Mp9) := hf
      unfold fX9_layRuns_B7 at hf
      refine lv_iload_n hx hb dX9_layRuns_7 rfl (lv_at hl 1 rfl) ?_
      refine lv_aload_n hx hb dX9_layRuns_8 rfl (lv_at hl 0 rfl) ?_
      refine va_get (D := D) (ci := 7) (v := .int Mn) (C := RX9) (T := TX9) (N := 11) hx hb hts huX9 hown hE.1 hP 0 rfl rfl 1 (by decide) hk39 (fun _ h9 => h9) rfl dX9_layRuns_9 ?_
      refine lv_icmp_ge (tgt := 158) hx hb dX9_layRuns_12 (by decide) (fun c_12 => ?_) (fun c_12 => ?_)
      · have hf := (if_pos c_12).symm.trans hf
        exact J158 Mm Ms Me Mp hf _ _ hP hS _ (lv_sub hl [] rfl)
      · have hf := (if_neg c_12).symm.trans hf
        refine lv_iconst (v := (1 : Int32)) hx hb dX9_layRuns_15 (by decide) ?_
        refine lv_istore_n (lv' := [(2, .int (1 : Int32)), (0, .ref (q 14)), (1, .int x1)]) hx hb dX9_layRuns_16 rfl hl (by decide) rfl (fun ls hl => ?_)
        exact K17 N Mm Ms Me Mp x1 (1 : Int32) hf _ _ hP hS _ (lv_sub hl [1, 2, 0] rfl)
  unfold fX9_layRuns at hf
  refine lv_aload_n hx hb dX9_layRuns_0 rfl (lv_at hl 0 rfl) ?_
  refine lv_iconst (v := (0 : Int32)) hx hb dX9_layRuns_1 (by decide) ?_
  refine va_put (D := D) (ci := 7) (v := .int (0 : Int32)) (ty := .int) (C := RX9) (T := TX9) (N := 11) hx hb hts huX9 tyX9 tyX9_ok nmX9 hown hE.1 hP (hDm Mh Mn Mm Mt Ms Me Mp) hS 0 rfl rfl 7 (by decide) hk130 (fun _ h9 => h9) rfl (by decide +kernel) rfl rfl (Nat.le_of_ble_eq_true rfl) dX9_layRuns_2 (fun H locs hP _ hS => ?_)
  have hP : va_P D vwCl (w_14_15_17_18_19 q cI cJ cD Mh Mn (0 : Int32) Mt Ms Me Mp) H := hP
  refine lv_iconst (v := (0 : Int32)) hx hb dX9_layRuns_5 (by decide) ?_
  refine lv_istore_n (lv' := [(1, .int (0 : Int32)), (0, .ref (q 14))]) hx hb dX9_layRuns_6 rfl hl (by decide) rfl (fun ls hl => ?_)
  exact K7 N (0 : Int32) Ms Me Mp (0 : Int32) hf _ _ hP hS _ (lv_sub hl [1, 0] rfl)
set_option maxHeartbeats 4000000 in
set_option maxRecDepth 100000 in
theorem kX9_isRun (l : Launch) (D : va_G) (cI cJ cD : ClassId) (q : Nat → Nat) (hq : gInj q) (N : Nat) (Mh : Int32) (Mn : Int32) (Mm : Int32) (Mt : (Nat → Int32)) (Ms : (Nat → Int32)) (Me : (Nat → Int32)) (Mp : (Nat → Int32)) (p1 : Int32) (r0 : Int32) (Mm9 : Int32) (Ms9 : (Nat → Int32)) (Me9 : (Nat → Int32)) (Mp9 : (Nat → Int32)) (hf : fX9_isRun N Mh Mn Mm Mt Ms Me Mp p1 = some (r0, Mm9, Ms9, Me9, Mp9)) : Met l yX9_isRun wsX9_isRun rX9_isRun (gP D cI cJ cD [.ref (q 14), .int p1] (w_14_15_17_18_19 q cI cJ cD Mh Mn Mm Mt Ms Me Mp)) (gQ D (some (.int r0)) (w_14_15_17_18_19 q cI cJ cD Mh Mn Mm9 Mt Ms9 Me9 Mp9) (gA q [14, 15, 17, 18, 19])) 0 0 (gA q [14, 15, 17, 18, 19]) := by
  refine Met.ofW (cc := cX9_isRun) (maxL := 2) (ret := (some .boolean)) (by decide +kernel) rfl ?_
  intro p e s m args below meth c s₁ B hml hv
  obtain ⟨rfl, hP, hE⟩ := hv
  have hx := B.exec
  have hb := B.bytes
  have hr := B.returns
  have hts := atoms_spec (ws := wsX9_isRun) B.pre
  have hown : s.vm.findClass RX9 = some m.cls := findClass_of_methodNamed B.named
  have hlocks := B.notSynchronized
  have hS : va_S (gA q [14, 15, 17, 18, 19]) s.heap s.heap [] := va_S.rf
  have hl := lv_entry ([.ref (q 14), .int p1]) (n := 2) (Nat.le_of_ble_eq_true rfl)
  rw [lg_entry_eq]
  generalize (lg_sl ([.ref (q 14), .int p1]) ++ List.replicate (2 - (lg_sl ([.ref (q 14), .int p1])).length) Slot.unset).toArray = ls at hl ⊢
  have hl : lv_has ls 2 [(0, .ref (q 14)), (1, .int p1)] := hl
  have hk130 := hts (.fieldLink RX9 130 "LyndonTextModel" "runMany" "I") (by decide +kernel)
  have huX9 : ∀ w ∈ u_ws RX9 TX9 11, w ∈ wsX9_isRun := by decide +kernel
  unfold fX9_isRun at hf
  refine lv_aload_n hx hb dX9_isRun_0 rfl (lv_at hl 0 rfl) ?_
  obtain ⟨⟨Mm1, Ms1, Me1, Mp1⟩, hc, hf⟩ := bn_some hf
  try dsimp only at hf
  refine g_call0 (ws' := (w_14_15_17_18_19 q cI cJ cD Mh Mn Mm1 Mt Ms1 Me1 Mp1)) (st1 := []) hq [14, 15, 17, 18, 19] [14, 15, 17, 18, 19] [.inl 0, .inl 1, .inl 2, .inl 3, .inl 4] (va_runV (As := []) (rest := []) ⟨hx, hb, hml, hown, hts⟩ (kX9_layRuns l D cI cJ cD q hq N Mh Mn Mm Mt Ms Me Mp Mm1 Ms1 Me1 Mp1 hc) (cwV 0 hts gX9_isRun_X9_layRuns rfl rfl rfl (by decide +kernel) ⟨(Nat.le_of_ble_eq_true rfl), (Nat.le_of_ble_eq_true rfl)⟩) ⟨gP_blind, va_recv hE.1 hP (ci := 7) (q0 := 0) rfl rfl, fun U hU hW => ⟨rfl, by rw [hU]; exact hP.sub (ws' := (w_14_15_17_18_19 q cI cJ cD Mh Mn Mm Mt Ms Me Mp)) [0, 1, 2, 3, 4] rfl, gEv.warm hW hE⟩⟩ rfl rfl hl.1 rfl (lv_room (Nat.le_of_ble_eq_true rfl)) dX9_isRun_1 ⟨Nat.zero_le _, Nat.zero_le _⟩) hP hS (gSub rfl) rfl rfl rfl rfl rfl (fun H locs hP hS => ?_)
  refine lv_iload_n hx hb dX9_isRun_4 rfl (lv_at hl 1 rfl) ?_
  refine lv_iconst (v := (0 : Int32)) hx hb dX9_isRun_5 (by decide) ?_
  refine lv_aload_n hx hb dX9_isRun_6 rfl (lv_at hl 0 rfl) ?_
  refine va_get (D := D) (ci := 7) (v := .int Mm1) (C := RX9) (T := TX9) (N := 11) hx hb hts huX9 hown hE.1 hP 0 rfl rfl 7 (by decide) hk130 (fun _ h9 => h9) rfl dX9_isRun_7 ?_
  refine lv_iconst (v := (1 : Int32)) hx hb dX9_isRun_10 (by decide) ?_
  refine lv_isub hx hb dX9_isRun_11 ?_
  obtain ⟨r12, hc, hf⟩ := bn_some hf
  try dsimp only at hf
  refine g_call0 (ws' := (w_14_15_17_18_19 q cI cJ cD Mh Mn Mm1 Mt Ms1 Me1 Mp1)) (st1 := [.int r12]) hq [14, 15, 17, 18, 19] [] [.inr 0, .inr 1, .inr 2, .inr 3, .inr 4] (va_runS (As := [.int p1, .int (0 : Int32), .int (Mm1 - (1 : Int32))]) (rest := []) ⟨hx, hb, hml, hown, hts⟩ (kX9_in l D cI cJ cD q hq N p1 (0 : Int32) (Mm1 - (1 : Int32)) r12 hc) (va_cwS 3 hts gX9_isRun_X9_in rfl rfl rfl (by decide +kernel) ⟨(Nat.le_of_ble_eq_true rfl), (Nat.le_of_ble_eq_true rfl)⟩) ⟨gP_blind, fun U hU hW => ⟨rfl, by rw [hU]; exact hP.sub (ws' := (w_0none q cI cJ cD)) [] rfl, gEv.warm hW hE⟩⟩ rfl rfl hl.1 rfl (lv_room (Nat.le_of_ble_eq_true rfl)) dX9_isRun_12 ⟨Nat.zero_le _, Nat.zero_le _⟩) hP hS (gSub rfl) rfl rfl rfl rfl rfl (fun H locs hP hS => ?_)
  obtain ⟨g_1, hf⟩ := gd_some hf
  cases hf
  exact W.zret (ty := .boolean) hx hb hr (isB_nar g_1) (fun t ht hW => ⟨⟨rfl, by rw [ht]; exact hP⟩, hS.F ht⟩) hS.2.2 dX9_isRun_15
set_option maxHeartbeats 4000000 in
set_option maxRecDepth 100000 in
theorem kX9_runs (l : Launch) (D : va_G) (cI cJ cD : ClassId) (q : Nat → Nat) (hq : gInj q) (N : Nat) (Mh : Int32) (Mn : Int32) (Mm : Int32) (Mt : (Nat → Int32)) (Ms : (Nat → Int32)) (Me : (Nat → Int32)) (Mp : (Nat → Int32)) (r0 : Int32) (Mh9 : Int32) (Mm9 : Int32) (Ms9 : (Nat → Int32)) (Me9 : (Nat → Int32)) (Mp9 : (Nat → Int32)) (hf : fX9_runs N Mh Mn Mm Mt Ms Me Mp = some (r0, Mh9, Mm9, Ms9, Me9, Mp9)) : Met l yX9_runs wsX9_runs rX9_runs (gP D cI cJ cD [.ref (q 14)] (w_14_15_17_18_19 q cI cJ cD Mh Mn Mm Mt Ms Me Mp)) (gQ D (some (.int r0)) (w_14_15_17_18_19 q cI cJ cD Mh9 Mn Mm9 Mt Ms9 Me9 Mp9) (gA q [14, 15, 17, 18, 19])) 0 0 (gA q [14, 15, 17, 18, 19]) := by
  refine Met.ofW (cc := cX9_runs) (maxL := 1) (ret := (some .int)) (by decide +kernel) rfl ?_
  intro p e s m args below meth c s₁ B hml hv
  obtain ⟨rfl, hP, hE⟩ := hv
  have hx := B.exec
  have hb := B.bytes
  have hr := B.returns
  have hts := atoms_spec (ws := wsX9_runs) B.pre
  have hown : s.vm.findClass RX9 = some m.cls := findClass_of_methodNamed B.named
  have hlocks := B.notSynchronized
  have hS : va_S (gA q [14, 15, 17, 18, 19]) s.heap s.heap [] := va_S.rf
  have hl := lv_entry ([.ref (q 14)]) (n := 1) (Nat.le_of_ble_eq_true rfl)
  rw [lg_entry_eq]
  generalize (lg_sl ([.ref (q 14)]) ++ List.replicate (1 - (lg_sl ([.ref (q 14)])).length) Slot.unset).toArray = ls at hl ⊢
  have hl : lv_has ls 1 [(0, .ref (q 14))] := hl
  have hDm : ∀ (z0 : Int32) (z1 : Int32) (z2 : Int32) (z3 : (Nat → Int32)) (z4 : (Nat → Int32)) (z5 : (Nat → Int32)) (z6 : (Nat → Int32)), va_D (gA q [14, 15, 17, 18, 19]) (w_14_15_17_18_19 q cI cJ cD z0 z1 z2 z3 z4 z5 z6) := fun _ _ _ _ _ _ _ => gD_of hq [14, 15, 17, 18, 19] rfl rfl rfl (fun k h => ⟨k, h, rfl⟩)
  have hk35 := hts (.fieldLink RX9 35 "LyndonTextModel" "thrown" "I") (by decide +kernel)
  have hk130 := hts (.fieldLink RX9 130 "LyndonTextModel" "runMany" "I") (by decide +kernel)
  have huX9 : ∀ w ∈ u_ws RX9 TX9 11, w ∈ wsX9_runs := by decide +kernel
  unfold fX9_runs at hf
  refine lv_aload_n hx hb dX9_runs_0 rfl (lv_at hl 0 rfl) ?_
  refine lv_iconst (v := (0 : Int32)) hx hb dX9_runs_1 (by decide) ?_
  refine va_put (D := D) (ci := 7) (v := .int (0 : Int32)) (ty := .int) (C := RX9) (T := TX9) (N := 11) hx hb hts huX9 tyX9 tyX9_ok nmX9 hown hE.1 hP (hDm Mh Mn Mm Mt Ms Me Mp) hS 0 rfl rfl 0 (by decide) hk35 (fun _ h9 => h9) rfl (by decide +kernel) rfl rfl (Nat.le_of_ble_eq_true rfl) dX9_runs_2 (fun H locs hP _ hS => ?_)
  have hP : va_P D vwCl (w_14_15_17_18_19 q cI cJ cD (0 : Int32) Mn Mm Mt Ms Me Mp) H := hP
  refine lv_aload_n hx hb dX9_runs_5 rfl (lv_at hl 0 rfl) ?_
  obtain ⟨⟨Mm6, Ms6, Me6, Mp6⟩, hc, hf⟩ := bn_some hf
  try dsimp only at hf
  refine g_call0 (ws' := (w_14_15_17_18_19 q cI cJ cD (0 : Int32) Mn Mm6 Mt Ms6 Me6 Mp6)) (st1 := []) hq [14, 15, 17, 18, 19] [14, 15, 17, 18, 19] [.inl 0, .inl 1, .inl 2, .inl 3, .inl 4] (va_runV (As := []) (rest := []) ⟨hx, hb, hml, hown, hts⟩ (kX9_layRuns l D cI cJ cD q hq N (0 : Int32) Mn Mm Mt Ms Me Mp Mm6 Ms6 Me6 Mp6 hc) (cwV 0 hts gX9_runs_X9_layRuns rfl rfl rfl (by decide +kernel) ⟨(Nat.le_of_ble_eq_true rfl), (Nat.le_of_ble_eq_true rfl)⟩) ⟨gP_blind, va_recv hE.1 hP (ci := 7) (q0 := 0) rfl rfl, fun U hU hW => ⟨rfl, by rw [hU]; exact hP.sub (ws' := (w_14_15_17_18_19 q cI cJ cD (0 : Int32) Mn Mm Mt Ms Me Mp)) [0, 1, 2, 3, 4] rfl, gEv.warm hW hE⟩⟩ rfl rfl hl.1 rfl (lv_room (Nat.le_of_ble_eq_true rfl)) dX9_runs_6 ⟨Nat.zero_le _, Nat.zero_le _⟩) hP hS (gSub rfl) rfl rfl rfl rfl rfl (fun H locs hP hS => ?_)
  refine lv_aload_n hx hb dX9_runs_9 rfl (lv_at hl 0 rfl) ?_
  refine va_get (D := D) (ci := 7) (v := .int Mm6) (C := RX9) (T := TX9) (N := 11) hx hb hts huX9 hown hE.1 hP 0 rfl rfl 7 (by decide) hk130 (fun _ h9 => h9) rfl dX9_runs_10 ?_
  cases hf
  exact W.iret hx hb hr (fun t ht hW => ⟨⟨rfl, by rw [ht]; exact hP⟩, hS.F ht⟩) hS.2.2 dX9_runs_13
set_option maxHeartbeats 4000000 in
set_option maxRecDepth 100000 in
theorem kX9_runStart (l : Launch) (D : va_G) (cI cJ cD : ClassId) (q : Nat → Nat) (hq : gInj q) (N : Nat) (Mh : Int32) (Mn : Int32) (Mm : Int32) (Mt : (Nat → Int32)) (Ms : (Nat → Int32)) (Me : (Nat → Int32)) (Mp : (Nat → Int32)) (p1 : Int32) (r0 : Int32) (Mh9 : Int32) (Mm9 : Int32) (Ms9 : (Nat → Int32)) (Me9 : (Nat → Int32)) (Mp9 : (Nat → Int32)) (hf : fX9_runStart N Mh Mn Mm Mt Ms Me Mp p1 = some (r0, Mh9, Mm9, Ms9, Me9, Mp9)) : Met l yX9_runStart wsX9_runStart rX9_runStart (gP D cI cJ cD [.ref (q 14), .int p1] (w_14_15_17_18_19 q cI cJ cD Mh Mn Mm Mt Ms Me Mp)) (gQ D (some (.int r0)) (w_14_15_17_18_19 q cI cJ cD Mh9 Mn Mm9 Mt Ms9 Me9 Mp9) (gA q [14, 15, 17, 18, 19])) 0 0 (gA q [14, 15, 17, 18, 19]) := by
  refine Met.ofW (cc := cX9_runStart) (maxL := 2) (ret := (some .int)) (by decide +kernel) rfl ?_
  intro p e s m args below meth c s₁ B hml hv
  obtain ⟨rfl, hP, hE⟩ := hv
  have hx := B.exec
  have hb := B.bytes
  have hr := B.returns
  have hts := atoms_spec (ws := wsX9_runStart) B.pre
  have hown : s.vm.findClass RX9 = some m.cls := findClass_of_methodNamed B.named
  have hlocks := B.notSynchronized
  have hS : va_S (gA q [14, 15, 17, 18, 19]) s.heap s.heap [] := va_S.rf
  have hl := lv_entry ([.ref (q 14), .int p1]) (n := 2) (Nat.le_of_ble_eq_true rfl)
  rw [lg_entry_eq]
  generalize (lg_sl ([.ref (q 14), .int p1]) ++ List.replicate (2 - (lg_sl ([.ref (q 14), .int p1])).length) Slot.unset).toArray = ls at hl ⊢
  have hl : lv_has ls 2 [(0, .ref (q 14)), (1, .int p1)] := hl
  have hk16 := hts (.fieldLink RX9 16 "LyndonTextModel" "starts" "[I") (by decide +kernel)
  have huX9 : ∀ w ∈ u_ws RX9 TX9 11, w ∈ wsX9_runStart := by decide +kernel
  have J30 : ∀ (Mh : Int32) (Mm : Int32) (Ms : (Nat → Int32)) (Me : (Nat → Int32)) (Mp : (Nat → Int32)) (y0 : Int32), fX9_runStart_J30 N Mn Mt Mh Mm Ms Me Mp y0 = some (r0, Mh9, Mm9, Ms9, Me9, Mp9) → ∀ (H : Heap) (locs : List Loc), va_P D vwCl (w_14_15_17_18_19 q cI cJ cD Mh Mn Mm Mt Ms Me Mp) H → va_S (gA q [14, 15, 17, 18, 19]) s.heap H locs → ∀ ls : Array Slot, lv_has ls 2 [] → W p l e (headSpec wsX9_runStart rX9_runStart).room s m ([.ref (q 14), .int p1] : List Value).toArray below meth c H locs 0 0 (MQ below (gQ D (some (.int r0)) (w_14_15_17_18_19 q cI cJ cD Mh9 Mn Mm9 Mt Ms9 Me9 Mp9) (gA q [14, 15, 17, 18, 19])) ([.ref (q 14), .int p1] : List Value).toArray s 0 0 (gA q [14, 15, 17, 18, 19])) (F0 m 30 ls [.int y0]) := by
    intro Mh Mm Ms Me Mp y0 hf H locs hP hS ls hl
    unfold fX9_runStart_J30 at hf
    cases hf
    exact W.iret hx hb hr (fun t ht hW => ⟨⟨rfl, by rw [ht]; exact hP⟩, hS.F ht⟩) hS.2.2 dX9_runStart_30
  have J14 : ∀ (Mh : Int32) (Mm : Int32) (Ms : (Nat → Int32)) (Me : (Nat → Int32)) (Mp : (Nat → Int32)) (x1 : Int32) (y1 : Int32), fX9_runStart_J14 N Mn Mt Mh Mm Ms Me Mp x1 y1 = some (r0, Mh9, Mm9, Ms9, Me9, Mp9) → ∀ (H : Heap) (locs : List Loc), va_P D vwCl (w_14_15_17_18_19 q cI cJ cD Mh Mn Mm Mt Ms Me Mp) H → va_S (gA q [14, 15, 17, 18, 19]) s.heap H locs → ∀ ls : Array Slot, lv_has ls 2 [(0, .ref (q 14)), (1, .int x1)] → W p l e (headSpec wsX9_runStart rX9_runStart).room s m ([.ref (q 14), .int p1] : List Value).toArray below meth c H locs 0 0 (MQ below (gQ D (some (.int r0)) (w_14_15_17_18_19 q cI cJ cD Mh9 Mn Mm9 Mt Ms9 Me9 Mp9) (gA q [14, 15, 17, 18, 19])) ([.ref (q 14), .int p1] : List Value).toArray s 0 0 (gA q [14, 15, 17, 18, 19])) (F0 m 14 ls [.int y1, .ref (q 14)]) := by
    intro Mh Mm Ms Me Mp x1 y1 hf H locs hP hS ls hl
    unfold fX9_runStart_J14 at hf
    obtain ⟨⟨r14, Mh14⟩, hc, hf⟩ := bn_some hf
    try dsimp only at hf
    refine g_call0 (ws' := (w_14_15_17_18_19 q cI cJ cD Mh14 Mn Mm Mt Ms Me Mp)) (st1 := [.int r14]) hq [14, 15, 17, 18, 19] [14] [.inl 0, .inr 1, .inr 2, .inr 3, .inr 4] (va_runV (As := [.int y1]) (rest := []) ⟨hx, hb, hml, hown, hts⟩ (kX9_goesWell l D cI cJ cD q hq N Mh Mn Mm y1 r14 Mh14 hc) (cwV 1 hts gX9_runStart_X9_goesWell rfl rfl rfl (by decide +kernel) ⟨(Nat.le_of_ble_eq_true rfl), (Nat.le_of_ble_eq_true rfl)⟩) ⟨gP_blind, va_recv hE.1 hP (ci := 7) (q0 := 0) rfl rfl, fun U hU hW => ⟨rfl, by rw [hU]; exact hP.sub (ws' := (w_14 q cI cJ cD Mh Mn Mm)) [0] rfl, gEv.warm hW hE⟩⟩ rfl rfl hl.1 rfl (lv_room (Nat.le_of_ble_eq_true rfl)) dX9_runStart_14 ⟨Nat.zero_le _, Nat.zero_le _⟩) hP hS (gSub rfl) rfl rfl rfl rfl rfl (fun H locs hP hS => ?_)
    refine lv_if_eq (tgt := 29) hx hb dX9_runStart_17 (by decide) (fun c_1 => ?_) (fun c_1 => ?_)
    · have hf := (if_pos c_1).symm.trans hf
      refine lv_iconst (v := (0 : Int32)) hx hb dX9_runStart_29 (by decide) ?_
      exact J30 Mh14 Mm Ms Me Mp (0 : Int32) hf _ _ hP hS _ (lv_sub hl [] rfl)
    · have hf := (if_neg c_1).symm.trans hf
      refine lv_aload_n hx hb dX9_runStart_20 rfl (lv_at hl 0 rfl) ?_
      refine va_get (D := D) (ci := 7) (v := .ref (q 17)) (C := RX9) (T := TX9) (N := 11) hx hb hts huX9 hown hE.1 hP 0 rfl rfl 4 (by decide) hk16 (fun _ h9 => h9) rfl dX9_runStart_21 ?_
      refine lv_iload_n hx hb dX9_runStart_24 rfl (lv_at hl 1 rfl) ?_
      obtain ⟨g_2, hf⟩ := gd_some hf
      refine va_iald hx hb hE.1 hP 2 0 rfl rfl (inb_in g_2) dX9_runStart_25 ?_
      refine lv_goto (tgt := 30) hx hb dX9_runStart_26 (by decide) ?_
      exact J30 Mh14 Mm Ms Me Mp (Ms (x1).toNatClampNeg) hf _ _ hP hS _ (lv_sub hl [] rfl)
  unfold fX9_runStart at hf
  refine lv_aload_n hx hb dX9_runStart_0 rfl (lv_at hl 0 rfl) ?_
  refine lv_aload_n hx hb dX9_runStart_1 rfl (lv_at hl 0 rfl) ?_
  refine lv_iload_n hx hb dX9_runStart_2 rfl (lv_at hl 1 rfl) ?_
  obtain ⟨⟨r3, Mm3, Ms3, Me3, Mp3⟩, hc, hf⟩ := bn_some hf
  try dsimp only at hf
  refine g_call0 (ws' := (w_14_15_17_18_19 q cI cJ cD Mh Mn Mm3 Mt Ms3 Me3 Mp3)) (st1 := [.int r3, .ref (q 14)]) hq [14, 15, 17, 18, 19] [14, 15, 17, 18, 19] [.inl 0, .inl 1, .inl 2, .inl 3, .inl 4] (va_runV (As := [.int p1]) (rest := [.ref (q 14)]) ⟨hx, hb, hml, hown, hts⟩ (kX9_isRun l D cI cJ cD q hq N Mh Mn Mm Mt Ms Me Mp p1 r3 Mm3 Ms3 Me3 Mp3 hc) (cwV 1 hts gX9_runStart_X9_isRun rfl rfl rfl (by decide +kernel) ⟨(Nat.le_of_ble_eq_true rfl), (Nat.le_of_ble_eq_true rfl)⟩) ⟨gP_blind, va_recv hE.1 hP (ci := 7) (q0 := 0) rfl rfl, fun U hU hW => ⟨rfl, by rw [hU]; exact hP.sub (ws' := (w_14_15_17_18_19 q cI cJ cD Mh Mn Mm Mt Ms Me Mp)) [0, 1, 2, 3, 4] rfl, gEv.warm hW hE⟩⟩ rfl rfl hl.1 rfl (lv_room (Nat.le_of_ble_eq_true rfl)) dX9_runStart_3 ⟨Nat.zero_le _, Nat.zero_le _⟩) hP hS (gSub rfl) rfl rfl rfl rfl rfl (fun H locs hP hS => ?_)
  refine lv_if_eq (tgt := 13) hx hb dX9_runStart_6 (by decide) (fun c_3 => ?_) (fun c_3 => ?_)
  · have hf := (if_pos c_3).symm.trans hf
    refine lv_iconst (v := (1 : Int32)) hx hb dX9_runStart_13 (by decide) ?_
    exact J14 Mh Mm3 Ms3 Me3 Mp3 p1 (1 : Int32) hf _ _ hP hS _ (lv_sub hl [0, 1] rfl)
  · have hf := (if_neg c_3).symm.trans hf
    refine lv_iconst (v := (0 : Int32)) hx hb dX9_runStart_9 (by decide) ?_
    refine lv_goto (tgt := 14) hx hb dX9_runStart_10 (by decide) ?_
    exact J14 Mh Mm3 Ms3 Me3 Mp3 p1 (0 : Int32) hf _ _ hP hS _ (lv_sub hl [0, 1] rfl)
set_option maxHeartbeats 4000000 in
set_option maxRecDepth 100000 in
theorem kX9_runEnd (l : Launch) (D : va_G) (cI cJ cD : ClassId) (q : Nat → Nat) (hq : gInj q) (N : Nat) (Mh : Int32) (Mn : Int32) (Mm : Int32) (Mt : (Nat → Int32)) (Ms : (Nat → Int32)) (Me : (Nat → Int32)) (Mp : (Nat → Int32)) (p1 : Int32) (r0 : Int32) (Mh9 : Int32) (Mm9 : Int32) (Ms9 : (Nat → Int32)) (Me9 : (Nat → Int32)) (Mp9 : (Nat → Int32)) (hf : fX9_runEnd N Mh Mn Mm Mt Ms Me Mp p1 = some (r0, Mh9, Mm9, Ms9, Me9, Mp9)) : Met l yX9_runEnd wsX9_runEnd rX9_runEnd (gP D cI cJ cD [.ref (q 14), .int p1] (w_14_15_17_18_19 q cI cJ cD Mh Mn Mm Mt Ms Me Mp)) (gQ D (some (.int r0)) (w_14_15_17_18_19 q cI cJ cD Mh9 Mn Mm9 Mt Ms9 Me9 Mp9) (gA q [14, 15, 17, 18, 19])) 0 0 (gA q [14, 15, 17, 18, 19]) := by
  refine Met.ofW (cc := cX9_runEnd) (maxL := 2) (ret := (some .int)) (by decide +kernel) rfl ?_
  intro p e s m args below meth c s₁ B hml hv
  obtain ⟨rfl, hP, hE⟩ := hv
  have hx := B.exec
  have hb := B.bytes
  have hr := B.returns
  have hts := atoms_spec (ws := wsX9_runEnd) B.pre
  have hown : s.vm.findClass RX9 = some m.cls := findClass_of_methodNamed B.named
  have hlocks := B.notSynchronized
  have hS : va_S (gA q [14, 15, 17, 18, 19]) s.heap s.heap [] := va_S.rf
  have hl := lv_entry ([.ref (q 14), .int p1]) (n := 2) (Nat.le_of_ble_eq_true rfl)
  rw [lg_entry_eq]
  generalize (lg_sl ([.ref (q 14), .int p1]) ++ List.replicate (2 - (lg_sl ([.ref (q 14), .int p1])).length) Slot.unset).toArray = ls at hl ⊢
  have hl : lv_has ls 2 [(0, .ref (q 14)), (1, .int p1)] := hl
  have hk19 := hts (.fieldLink RX9 19 "LyndonTextModel" "ends" "[I") (by decide +kernel)
  have huX9 : ∀ w ∈ u_ws RX9 TX9 11, w ∈ wsX9_runEnd := by decide +kernel
  have J30 : ∀ (Mh : Int32) (Mm : Int32) (Ms : (Nat → Int32)) (Me : (Nat → Int32)) (Mp : (Nat → Int32)) (y0 : Int32), fX9_runEnd_J30 N Mn Mt Mh Mm Ms Me Mp y0 = some (r0, Mh9, Mm9, Ms9, Me9, Mp9) → ∀ (H : Heap) (locs : List Loc), va_P D vwCl (w_14_15_17_18_19 q cI cJ cD Mh Mn Mm Mt Ms Me Mp) H → va_S (gA q [14, 15, 17, 18, 19]) s.heap H locs → ∀ ls : Array Slot, lv_has ls 2 [] → W p l e (headSpec wsX9_runEnd rX9_runEnd).room s m ([.ref (q 14), .int p1] : List Value).toArray below meth c H locs 0 0 (MQ below (gQ D (some (.int r0)) (w_14_15_17_18_19 q cI cJ cD Mh9 Mn Mm9 Mt Ms9 Me9 Mp9) (gA q [14, 15, 17, 18, 19])) ([.ref (q 14), .int p1] : List Value).toArray s 0 0 (gA q [14, 15, 17, 18, 19])) (F0 m 30 ls [.int y0]) := by
    intro Mh Mm Ms Me Mp y0 hf H locs hP hS ls hl
    unfold fX9_runEnd_J30 at hf
    cases hf
    exact W.iret hx hb hr (fun t ht hW => ⟨⟨rfl, by rw [ht]; exact hP⟩, hS.F ht⟩) hS.2.2 dX9_runEnd_30
  have J14 : ∀ (Mh : Int32) (Mm : Int32) (Ms : (Nat → Int32)) (Me : (Nat → Int32)) (Mp : (Nat → Int32)) (x1 : Int32) (y1 : Int32), fX9_runEnd_J14 N Mn Mt Mh Mm Ms Me Mp x1 y1 = some (r0, Mh9, Mm9, Ms9, Me9, Mp9) → ∀ (H : Heap) (locs : List Loc), va_P D vwCl (w_14_15_17_18_19 q cI cJ cD Mh Mn Mm Mt Ms Me Mp) H → va_S (gA q [14, 15, 17, 18, 19]) s.heap H locs → ∀ ls : Array Slot, lv_has ls 2 [(0, .ref (q 14)), (1, .int x1)] → W p l e (headSpec wsX9_runEnd rX9_runEnd).room s m ([.ref (q 14), .int p1] : List Value).toArray below meth c H locs 0 0 (MQ below (gQ D (some (.int r0)) (w_14_15_17_18_19 q cI cJ cD Mh9 Mn Mm9 Mt Ms9 Me9 Mp9) (gA q [14, 15, 17, 18, 19])) ([.ref (q 14), .int p1] : List Value).toArray s 0 0 (gA q [14, 15, 17, 18, 19])) (F0 m 14 ls [.int y1, .ref (q 14)]) := by
    intro Mh Mm Ms Me Mp x1 y1 hf H locs hP hS ls hl
    unfold fX9_runEnd_J14 at hf
    obtain ⟨⟨r14, Mh14⟩, hc, hf⟩ := bn_some hf
    try dsimp only at hf
    refine g_call0 (ws' := (w_14_15_17_18_19 q cI cJ cD Mh14 Mn Mm Mt Ms Me Mp)) (st1 := [.int r14]) hq [14, 15, 17, 18, 19] [14] [.inl 0, .inr 1, .inr 2, .inr 3, .inr 4] (va_runV (As := [.int y1]) (rest := []) ⟨hx, hb, hml, hown, hts⟩ (kX9_goesWell l D cI cJ cD q hq N Mh Mn Mm y1 r14 Mh14 hc) (cwV 1 hts gX9_runEnd_X9_goesWell rfl rfl rfl (by decide +kernel) ⟨(Nat.le_of_ble_eq_true rfl), (Nat.le_of_ble_eq_true rfl)⟩) ⟨gP_blind, va_recv hE.1 hP (ci := 7) (q0 := 0) rfl rfl, fun U hU hW => ⟨rfl, by rw [hU]; exact hP.sub (ws' := (w_14 q cI cJ cD Mh Mn Mm)) [0] rfl, gEv.warm hW hE⟩⟩ rfl rfl hl.1 rfl (lv_room (Nat.le_of_ble_eq_true rfl)) dX9_runEnd_14 ⟨Nat.zero_le _, Nat.zero_le _⟩) hP hS (gSub rfl) rfl rfl rfl rfl rfl (fun H locs hP hS => ?_)
    refine lv_if_eq (tgt := 29) hx hb dX9_runEnd_17 (by decide) (fun c_1 => ?_) (fun c_1 => ?_)
    · have hf := (if_pos c_1).symm.trans hf
      refine lv_iconst (v := (0 : Int32)) hx hb dX9_runEnd_29 (by decide) ?_
      exact J30 Mh14 Mm Ms Me Mp (0 : Int32) hf _ _ hP hS _ (lv_sub hl [] rfl)
    · have hf := (if_neg c_1).symm.trans hf
      refine lv_aload_n hx hb dX9_runEnd_20 rfl (lv_at hl 0 rfl) ?_
      refine va_get (D := D) (ci := 7) (v := .ref (q 18)) (C := RX9) (T := TX9) (N := 11) hx hb hts huX9 hown hE.1 hP 0 rfl rfl 5 (by decide) hk19 (fun _ h9 => h9) rfl dX9_runEnd_21 ?_
      refine lv_iload_n hx hb dX9_runEnd_24 rfl (lv_at hl 1 rfl) ?_
      obtain ⟨g_2, hf⟩ := gd_some hf
      refine va_iald hx hb hE.1 hP 3 0 rfl rfl (inb_in g_2) dX9_runEnd_25 ?_
      refine lv_goto (tgt := 30) hx hb dX9_runEnd_26 (by decide) ?_
      exact J30 Mh14 Mm Ms Me Mp (Me (x1).toNatClampNeg) hf _ _ hP hS _ (lv_sub hl [] rfl)
  unfold fX9_runEnd at hf
  refine lv_aload_n hx hb dX9_runEnd_0 rfl (lv_at hl 0 rfl) ?_
  refine lv_aload_n hx hb dX9_runEnd_1 rfl (lv_at hl 0 rfl) ?_
  refine lv_iload_n hx hb dX9_runEnd_2 rfl (lv_at hl 1 rfl) ?_
  obtain ⟨⟨r3, Mm3, Ms3, Me3, Mp3⟩, hc, hf⟩ := bn_some hf
  try dsimp only at hf
  refine g_call0 (ws' := (w_14_15_17_18_19 q cI cJ cD Mh Mn Mm3 Mt Ms3 Me3 Mp3)) (st1 := [.int r3, .ref (q 14)]) hq [14, 15, 17, 18, 19] [14, 15, 17, 18, 19] [.inl 0, .inl 1, .inl 2, .inl 3, .inl 4] (va_runV (As := [.int p1]) (rest := [.ref (q 14)]) ⟨hx, hb, hml, hown, hts⟩ (kX9_isRun l D cI cJ cD q hq N Mh Mn Mm Mt Ms Me Mp p1 r3 Mm3 Ms3 Me3 Mp3 hc) (cwV 1 hts gX9_runEnd_X9_isRun rfl rfl rfl (by decide +kernel) ⟨(Nat.le_of_ble_eq_true rfl), (Nat.le_of_ble_eq_true rfl)⟩) ⟨gP_blind, va_recv hE.1 hP (ci := 7) (q0 := 0) rfl rfl, fun U hU hW => ⟨rfl, by rw [hU]; exact hP.sub (ws' := (w_14_15_17_18_19 q cI cJ cD Mh Mn Mm Mt Ms Me Mp)) [0, 1, 2, 3, 4] rfl, gEv.warm hW hE⟩⟩ rfl rfl hl.1 rfl (lv_room (Nat.le_of_ble_eq_true rfl)) dX9_runEnd_3 ⟨Nat.zero_le _, Nat.zero_le _⟩) hP hS (gSub rfl) rfl rfl rfl rfl rfl (fun H locs hP hS => ?_)
  refine lv_if_eq (tgt := 13) hx hb dX9_runEnd_6 (by decide) (fun c_3 => ?_) (fun c_3 => ?_)
  · have hf := (if_pos c_3).symm.trans hf
    refine lv_iconst (v := (1 : Int32)) hx hb dX9_runEnd_13 (by decide) ?_
    exact J14 Mh Mm3 Ms3 Me3 Mp3 p1 (1 : Int32) hf _ _ hP hS _ (lv_sub hl [0, 1] rfl)
  · have hf := (if_neg c_3).symm.trans hf
    refine lv_iconst (v := (0 : Int32)) hx hb dX9_runEnd_9 (by decide) ?_
    refine lv_goto (tgt := 14) hx hb dX9_runEnd_10 (by decide) ?_
    exact J14 Mh Mm3 Ms3 Me3 Mp3 p1 (0 : Int32) hf _ _ hP hS _ (lv_sub hl [0, 1] rfl)
set_option maxHeartbeats 4000000 in
set_option maxRecDepth 100000 in
theorem kX9_runPeriod (l : Launch) (D : va_G) (cI cJ cD : ClassId) (q : Nat → Nat) (hq : gInj q) (N : Nat) (Mh : Int32) (Mn : Int32) (Mm : Int32) (Mt : (Nat → Int32)) (Ms : (Nat → Int32)) (Me : (Nat → Int32)) (Mp : (Nat → Int32)) (p1 : Int32) (r0 : Int32) (Mh9 : Int32) (Mm9 : Int32) (Ms9 : (Nat → Int32)) (Me9 : (Nat → Int32)) (Mp9 : (Nat → Int32)) (hf : fX9_runPeriod N Mh Mn Mm Mt Ms Me Mp p1 = some (r0, Mh9, Mm9, Ms9, Me9, Mp9)) : Met l yX9_runPeriod wsX9_runPeriod rX9_runPeriod (gP D cI cJ cD [.ref (q 14), .int p1] (w_14_15_17_18_19 q cI cJ cD Mh Mn Mm Mt Ms Me Mp)) (gQ D (some (.int r0)) (w_14_15_17_18_19 q cI cJ cD Mh9 Mn Mm9 Mt Ms9 Me9 Mp9) (gA q [14, 15, 17, 18, 19])) 0 0 (gA q [14, 15, 17, 18, 19]) := by
  refine Met.ofW (cc := cX9_runPeriod) (maxL := 2) (ret := (some .int)) (by decide +kernel) rfl ?_
  intro p e s m args below meth c s₁ B hml hv
  obtain ⟨rfl, hP, hE⟩ := hv
  have hx := B.exec
  have hb := B.bytes
  have hr := B.returns
  have hts := atoms_spec (ws := wsX9_runPeriod) B.pre
  have hown : s.vm.findClass RX9 = some m.cls := findClass_of_methodNamed B.named
  have hlocks := B.notSynchronized
  have hS : va_S (gA q [14, 15, 17, 18, 19]) s.heap s.heap [] := va_S.rf
  have hl := lv_entry ([.ref (q 14), .int p1]) (n := 2) (Nat.le_of_ble_eq_true rfl)
  rw [lg_entry_eq]
  generalize (lg_sl ([.ref (q 14), .int p1]) ++ List.replicate (2 - (lg_sl ([.ref (q 14), .int p1])).length) Slot.unset).toArray = ls at hl ⊢
  have hl : lv_has ls 2 [(0, .ref (q 14)), (1, .int p1)] := hl
  have hk22 := hts (.fieldLink RX9 22 "LyndonTextModel" "runPeriods" "[I") (by decide +kernel)
  have huX9 : ∀ w ∈ u_ws RX9 TX9 11, w ∈ wsX9_runPeriod := by decide +kernel
  have J30 : ∀ (Mh : Int32) (Mm : Int32) (Ms : (Nat → Int32)) (Me : (Nat → Int32)) (Mp : (Nat → Int32)) (y0 : Int32), fX9_runPeriod_J30 N Mn Mt Mh Mm Ms Me Mp y0 = some (r0, Mh9, Mm9, Ms9, Me9, Mp9) → ∀ (H : Heap) (locs : List Loc), va_P D vwCl (w_14_15_17_18_19 q cI cJ cD Mh Mn Mm Mt Ms Me Mp) H → va_S (gA q [14, 15, 17, 18, 19]) s.heap H locs → ∀ ls : Array Slot, lv_has ls 2 [] → W p l e (headSpec wsX9_runPeriod rX9_runPeriod).room s m ([.ref (q 14), .int p1] : List Value).toArray below meth c H locs 0 0 (MQ below (gQ D (some (.int r0)) (w_14_15_17_18_19 q cI cJ cD Mh9 Mn Mm9 Mt Ms9 Me9 Mp9) (gA q [14, 15, 17, 18, 19])) ([.ref (q 14), .int p1] : List Value).toArray s 0 0 (gA q [14, 15, 17, 18, 19])) (F0 m 30 ls [.int y0]) := by
    intro Mh Mm Ms Me Mp y0 hf H locs hP hS ls hl
    unfold fX9_runPeriod_J30 at hf
    cases hf
    exact W.iret hx hb hr (fun t ht hW => ⟨⟨rfl, by rw [ht]; exact hP⟩, hS.F ht⟩) hS.2.2 dX9_runPeriod_30
  have J14 : ∀ (Mh : Int32) (Mm : Int32) (Ms : (Nat → Int32)) (Me : (Nat → Int32)) (Mp : (Nat → Int32)) (x1 : Int32) (y1 : Int32), fX9_runPeriod_J14 N Mn Mt Mh Mm Ms Me Mp x1 y1 = some (r0, Mh9, Mm9, Ms9, Me9, Mp9) → ∀ (H : Heap) (locs : List Loc), va_P D vwCl (w_14_15_17_18_19 q cI cJ cD Mh Mn Mm Mt Ms Me Mp) H → va_S (gA q [14, 15, 17, 18, 19]) s.heap H locs → ∀ ls : Array Slot, lv_has ls 2 [(0, .ref (q 14)), (1, .int x1)] → W p l e (headSpec wsX9_runPeriod rX9_runPeriod).room s m ([.ref (q 14), .int p1] : List Value).toArray below meth c H locs 0 0 (MQ below (gQ D (some (.int r0)) (w_14_15_17_18_19 q cI cJ cD Mh9 Mn Mm9 Mt Ms9 Me9 Mp9) (gA q [14, 15, 17, 18, 19])) ([.ref (q 14), .int p1] : List Value).toArray s 0 0 (gA q [14, 15, 17, 18, 19])) (F0 m 14 ls [.int y1, .ref (q 14)]) := by
    intro Mh Mm Ms Me Mp x1 y1 hf H locs hP hS ls hl
    unfold fX9_runPeriod_J14 at hf
    obtain ⟨⟨r14, Mh14⟩, hc, hf⟩ := bn_some hf
    try dsimp only at hf
    refine g_call0 (ws' := (w_14_15_17_18_19 q cI cJ cD Mh14 Mn Mm Mt Ms Me Mp)) (st1 := [.int r14]) hq [14, 15, 17, 18, 19] [14] [.inl 0, .inr 1, .inr 2, .inr 3, .inr 4] (va_runV (As := [.int y1]) (rest := []) ⟨hx, hb, hml, hown, hts⟩ (kX9_goesWell l D cI cJ cD q hq N Mh Mn Mm y1 r14 Mh14 hc) (cwV 1 hts gX9_runPeriod_X9_goesWell rfl rfl rfl (by decide +kernel) ⟨(Nat.le_of_ble_eq_true rfl), (Nat.le_of_ble_eq_true rfl)⟩) ⟨gP_blind, va_recv hE.1 hP (ci := 7) (q0 := 0) rfl rfl, fun U hU hW => ⟨rfl, by rw [hU]; exact hP.sub (ws' := (w_14 q cI cJ cD Mh Mn Mm)) [0] rfl, gEv.warm hW hE⟩⟩ rfl rfl hl.1 rfl (lv_room (Nat.le_of_ble_eq_true rfl)) dX9_runPeriod_14 ⟨Nat.zero_le _, Nat.zero_le _⟩) hP hS (gSub rfl) rfl rfl rfl rfl rfl (fun H locs hP hS => ?_)
    refine lv_if_eq (tgt := 29) hx hb dX9_runPeriod_17 (by decide) (fun c_1 => ?_) (fun c_1 => ?_)
    · have hf := (if_pos c_1).symm.trans hf
      refine lv_iconst (v := (0 : Int32)) hx hb dX9_runPeriod_29 (by decide) ?_
      exact J30 Mh14 Mm Ms Me Mp (0 : Int32) hf _ _ hP hS _ (lv_sub hl [] rfl)
    · have hf := (if_neg c_1).symm.trans hf
      refine lv_aload_n hx hb dX9_runPeriod_20 rfl (lv_at hl 0 rfl) ?_
      refine va_get (D := D) (ci := 7) (v := .ref (q 19)) (C := RX9) (T := TX9) (N := 11) hx hb hts huX9 hown hE.1 hP 0 rfl rfl 6 (by decide) hk22 (fun _ h9 => h9) rfl dX9_runPeriod_21 ?_
      refine lv_iload_n hx hb dX9_runPeriod_24 rfl (lv_at hl 1 rfl) ?_
      obtain ⟨g_2, hf⟩ := gd_some hf
      refine va_iald hx hb hE.1 hP 4 0 rfl rfl (inb_in g_2) dX9_runPeriod_25 ?_
      refine lv_goto (tgt := 30) hx hb dX9_runPeriod_26 (by decide) ?_
      exact J30 Mh14 Mm Ms Me Mp (Mp (x1).toNatClampNeg) hf _ _ hP hS _ (lv_sub hl [] rfl)
  unfold fX9_runPeriod at hf
  refine lv_aload_n hx hb dX9_runPeriod_0 rfl (lv_at hl 0 rfl) ?_
  refine lv_aload_n hx hb dX9_runPeriod_1 rfl (lv_at hl 0 rfl) ?_
  refine lv_iload_n hx hb dX9_runPeriod_2 rfl (lv_at hl 1 rfl) ?_
  obtain ⟨⟨r3, Mm3, Ms3, Me3, Mp3⟩, hc, hf⟩ := bn_some hf
  try dsimp only at hf
  refine g_call0 (ws' := (w_14_15_17_18_19 q cI cJ cD Mh Mn Mm3 Mt Ms3 Me3 Mp3)) (st1 := [.int r3, .ref (q 14)]) hq [14, 15, 17, 18, 19] [14, 15, 17, 18, 19] [.inl 0, .inl 1, .inl 2, .inl 3, .inl 4] (va_runV (As := [.int p1]) (rest := [.ref (q 14)]) ⟨hx, hb, hml, hown, hts⟩ (kX9_isRun l D cI cJ cD q hq N Mh Mn Mm Mt Ms Me Mp p1 r3 Mm3 Ms3 Me3 Mp3 hc) (cwV 1 hts gX9_runPeriod_X9_isRun rfl rfl rfl (by decide +kernel) ⟨(Nat.le_of_ble_eq_true rfl), (Nat.le_of_ble_eq_true rfl)⟩) ⟨gP_blind, va_recv hE.1 hP (ci := 7) (q0 := 0) rfl rfl, fun U hU hW => ⟨rfl, by rw [hU]; exact hP.sub (ws' := (w_14_15_17_18_19 q cI cJ cD Mh Mn Mm Mt Ms Me Mp)) [0, 1, 2, 3, 4] rfl, gEv.warm hW hE⟩⟩ rfl rfl hl.1 rfl (lv_room (Nat.le_of_ble_eq_true rfl)) dX9_runPeriod_3 ⟨Nat.zero_le _, Nat.zero_le _⟩) hP hS (gSub rfl) rfl rfl rfl rfl rfl (fun H locs hP hS => ?_)
  refine lv_if_eq (tgt := 13) hx hb dX9_runPeriod_6 (by decide) (fun c_3 => ?_) (fun c_3 => ?_)
  · have hf := (if_pos c_3).symm.trans hf
    refine lv_iconst (v := (1 : Int32)) hx hb dX9_runPeriod_13 (by decide) ?_
    exact J14 Mh Mm3 Ms3 Me3 Mp3 p1 (1 : Int32) hf _ _ hP hS _ (lv_sub hl [0, 1] rfl)
  · have hf := (if_neg c_3).symm.trans hf
    refine lv_iconst (v := (0 : Int32)) hx hb dX9_runPeriod_9 (by decide) ?_
    refine lv_goto (tgt := 14) hx hb dX9_runPeriod_10 (by decide) ?_
    exact J14 Mh Mm3 Ms3 Me3 Mp3 p1 (0 : Int32) hf _ _ hP hS _ (lv_sub hl [0, 1] rfl)
set_option maxHeartbeats 4000000 in
set_option maxRecDepth 100000 in
theorem kX9_runsOver (l : Launch) (D : va_G) (cI cJ cD : ClassId) (q : Nat → Nat) (hq : gInj q) (N : Nat) (Mh : Int32) (Mn : Int32) (Mm : Int32) (Mt : (Nat → Int32)) (Ms : (Nat → Int32)) (Me : (Nat → Int32)) (Mp : (Nat → Int32)) (p1 : Int32) (r0 : Int32) (Mh9 : Int32) (Mm9 : Int32) (Ms9 : (Nat → Int32)) (Me9 : (Nat → Int32)) (Mp9 : (Nat → Int32)) (hf : fX9_runsOver N Mh Mn Mm Mt Ms Me Mp p1 = some (r0, Mh9, Mm9, Ms9, Me9, Mp9)) : Met l yX9_runsOver wsX9_runsOver rX9_runsOver (gP D cI cJ cD [.ref (q 14), .int p1] (w_14_15_17_18_19 q cI cJ cD Mh Mn Mm Mt Ms Me Mp)) (gQ D (some (.int r0)) (w_14_15_17_18_19 q cI cJ cD Mh9 Mn Mm9 Mt Ms9 Me9 Mp9) (gA q [14, 15, 17, 18, 19])) 0 0 (gA q [14, 15, 17, 18, 19]) := by
  refine Met.ofW (cc := cX9_runsOver) (maxL := 4) (ret := (some .int)) (by decide +kernel) rfl ?_
  intro p e s m args below meth c s₁ B hml hv
  obtain ⟨rfl, hP, hE⟩ := hv
  have hx := B.exec
  have hb := B.bytes
  have hr := B.returns
  have hts := atoms_spec (ws := wsX9_runsOver) B.pre
  have hown : s.vm.findClass RX9 = some m.cls := findClass_of_methodNamed B.named
  have hlocks := B.notSynchronized
  have hS : va_S (gA q [14, 15, 17, 18, 19]) s.heap s.heap [] := va_S.rf
  have hl := lv_entry ([.ref (q 14), .int p1]) (n := 4) (Nat.le_of_ble_eq_true rfl)
  rw [lg_entry_eq]
  generalize (lg_sl ([.ref (q 14), .int p1]) ++ List.replicate (4 - (lg_sl ([.ref (q 14), .int p1])).length) Slot.unset).toArray = ls at hl ⊢
  have hl : lv_has ls 4 [(0, .ref (q 14)), (1, .int p1)] := hl
  have hk130 := hts (.fieldLink RX9 130 "LyndonTextModel" "runMany" "I") (by decide +kernel)
  have hk16 := hts (.fieldLink RX9 16 "LyndonTextModel" "starts" "[I") (by decide +kernel)
  have hk19 := hts (.fieldLink RX9 19 "LyndonTextModel" "ends" "[I") (by decide +kernel)
  have huX9 : ∀ w ∈ u_ws RX9 TX9 11, w ∈ wsX9_runsOver := by decide +kernel
  have J72 : ∀ (Mh : Int32) (Mm : Int32) (Ms : (Nat → Int32)) (Me : (Nat → Int32)) (Mp : (Nat → Int32)) (x2 : Int32), fX9_runsOver_J72 N Mn Mt Mh Mm Ms Me Mp x2 = some (r0, Mh9, Mm9, Ms9, Me9, Mp9) → ∀ (H : Heap) (locs : List Loc), va_P D vwCl (w_14_15_17_18_19 q cI cJ cD Mh Mn Mm Mt Ms Me Mp) H → va_S (gA q [14, 15, 17, 18, 19]) s.heap H locs → ∀ ls : Array Slot, lv_has ls 4 [(2, .int x2)] → W p l e (headSpec wsX9_runsOver rX9_runsOver).room s m ([.ref (q 14), .int p1] : List Value).toArray below meth c H locs 0 0 (MQ below (gQ D (some (.int r0)) (w_14_15_17_18_19 q cI cJ cD Mh9 Mn Mm9 Mt Ms9 Me9 Mp9) (gA q [14, 15, 17, 18, 19])) ([.ref (q 14), .int p1] : List Value).toArray s 0 0 (gA q [14, 15, 17, 18, 19])) (F0 m 72 ls []) := by
    intro Mh Mm Ms Me Mp x2 hf H locs hP hS ls hl
    unfold fX9_runsOver_J72 at hf
    refine lv_iload_n hx hb dX9_runsOver_72 rfl (lv_at hl 0 rfl) ?_
    cases hf
    exact W.iret hx hb hr (fun t ht hW => ⟨⟨rfl, by rw [ht]; exact hP⟩, hS.F ht⟩) hS.2.2 dX9_runsOver_73
  have K30 : ∀ (n30 : Nat) (Mh : Int32) (Mm : Int32) (Ms : (Nat → Int32)) (Me : (Nat → Int32)) (Mp : (Nat → Int32)) (x1 : Int32) (x2 : Int32) (x3 : Int32), fX9_runsOver_H30 N Mn Mt n30 Mh Mm Ms Me Mp x1 x2 x3 = some (r0, Mh9, Mm9, Ms9, Me9, Mp9) → ∀ (H : Heap) (locs : List Loc), va_P D vwCl (w_14_15_17_18_19 q cI cJ cD Mh Mn Mm Mt Ms Me Mp) H → va_S (gA q [14, 15, 17, 18, 19]) s.heap H locs → ∀ ls : Array Slot, lv_has ls 4 [(0, .ref (q 14)), (1, .int x1), (2, .int x2), (3, .int x3)] → W p l e (headSpec wsX9_runsOver rX9_runsOver).room s m ([.ref (q 14), .int p1] : List Value).toArray below meth c H locs 0 0 (MQ below (gQ D (some (.int r0)) (w_14_15_17_18_19 q cI cJ cD Mh9 Mn Mm9 Mt Ms9 Me9 Mp9) (gA q [14, 15, 17, 18, 19])) ([.ref (q 14), .int p1] : List Value).toArray s 0 0 (gA q [14, 15, 17, 18, 19])) (F0 m 30 ls []) := by
    intro n30
    induction n30 with
    | zero =>
      intro Mh Mm Ms Me Mp x1 x2 x3 hf
      exact nomatch (show (none : Option (Int32 × Int32 × Int32 × (Nat → Int32) × (Nat → Int32) × (Nat → Int32))) = some (r0, Mh9, Mm9, Ms9, Me9, Mp9) from hf)
    | succ n30 ih30 =>
      have J64 : ∀ (Mh : Int32) (Mm : Int32) (Ms : (Nat → Int32)) (Me : (Nat → Int32)) (Mp : (Nat → Int32)) (x1 : Int32) (x3 : Int32) (y0 : Int32) (y1 : Int32), fX9_runsOver_J64 N Mn Mt (fX9_runsOver_H30 N Mn Mt n30) Mh Mm Ms Me Mp x1 x3 y0 y1 = some (r0, Mh9, Mm9, Ms9, Me9, Mp9) → ∀ (H : Heap) (locs : List Loc), va_P D vwCl (w_14_15_17_18_19 q cI cJ cD Mh Mn Mm Mt Ms Me Mp) H → va_S (gA q [14, 15, 17, 18, 19]) s.heap H locs → ∀ ls : Array Slot, lv_has ls 4 [(0, .ref (q 14)), (1, .int x1), (3, .int x3)] → W p l e (headSpec wsX9_runsOver rX9_runsOver).room s m ([.ref (q 14), .int p1] : List Value).toArray below meth c H locs 0 0 (MQ below (gQ D (some (.int r0)) (w_14_15_17_18_19 q cI cJ cD Mh9 Mn Mm9 Mt Ms9 Me9 Mp9) (gA q [14, 15, 17, 18, 19])) ([.ref (q 14), .int p1] : List Value).toArray s 0 0 (gA q [14, 15, 17, 18, 19])) (F0 m 64 ls [.int y1, .int y0]) := by
        intro Mh Mm Ms Me Mp x1 x3 y0 y1 hf H locs hP hS ls hl
        unfold fX9_runsOver_J64 at hf
        refine lv_iadd hx hb dX9_runsOver_64 ?_
        refine lv_istore_n (lv' := [(2, .int (y0 + y1)), (0, .ref (q 14)), (1, .int x1), (3, .int x3)]) hx hb dX9_runsOver_65 rfl hl (by decide) rfl (fun ls hl => ?_)
        refine lv_iinc (v := (x3 + 1)) (lv' := [(3, .int (x3 + 1)), (2, .int (y0 + y1)), (0, .ref (q 14)), (1, .int x1)]) hx hb dX9_runsOver_66 hl (k := 3) rfl rfl (by decide) rfl (fun ls hl => ?_)
        refine lv_goto (tgt := 30) hx hb dX9_runsOver_69 (by decide) ?_
        exact ih30 Mh Mm Ms Me Mp x1 (y0 + y1) (x3 + 1) hf _ _ hP hS _ (lv_sub hl [2, 3, 1, 0] rfl)
      have J63 : ∀ (Mh : Int32) (Mm : Int32) (Ms : (Nat → Int32)) (Me : (Nat → Int32)) (Mp : (Nat → Int32)) (x1 : Int32) (x3 : Int32) (y0 : Int32), fX9_runsOver_J63 N Mn Mt (fX9_runsOver_H30 N Mn Mt n30) Mh Mm Ms Me Mp x1 x3 y0 = some (r0, Mh9, Mm9, Ms9, Me9, Mp9) → ∀ (H : Heap) (locs : List Loc), va_P D vwCl (w_14_15_17_18_19 q cI cJ cD Mh Mn Mm Mt Ms Me Mp) H → va_S (gA q [14, 15, 17, 18, 19]) s.heap H locs → ∀ ls : Array Slot, lv_has ls 4 [(0, .ref (q 14)), (1, .int x1), (3, .int x3)] → W p l e (headSpec wsX9_runsOver rX9_runsOver).room s m ([.ref (q 14), .int p1] : List Value).toArray below meth c H locs 0 0 (MQ below (gQ D (some (.int r0)) (w_14_15_17_18_19 q cI cJ cD Mh9 Mn Mm9 Mt Ms9 Me9 Mp9) (gA q [14, 15, 17, 18, 19])) ([.ref (q 14), .int p1] : List Value).toArray s 0 0 (gA q [14, 15, 17, 18, 19])) (F0 m 63 ls [.int y0]) := by
        intro Mh Mm Ms Me Mp x1 x3 y0 hf H locs hP hS ls hl
        unfold fX9_runsOver_J63 at hf
        refine lv_iconst (v := (0 : Int32)) hx hb dX9_runsOver_63 (by decide) ?_
        exact J64 Mh Mm Ms Me Mp x1 x3 y0 (0 : Int32) hf _ _ hP hS _ (lv_sub hl [0, 1, 2] rfl)
      intro Mh Mm Ms Me Mp x1 x2 x3 hf H locs hP hS ls hl
      have hf : fX9_runsOver_B30 N Mn Mt (fX9_runsOver_H30 N Mn Mt n30) Mh Mm Ms Me Mp x1 x2 x3 = some (r0, Mh9, Mm9, Ms9, Me9, Mp9) := hf
      unfold fX9_runsOver_B30 at hf
      refine lv_iload_n hx hb dX9_runsOver_30 rfl (lv_at hl 3 rfl) ?_
      refine lv_aload_n hx hb dX9_runsOver_31 rfl (lv_at hl 0 rfl) ?_
      refine va_get (D := D) (ci := 7) (v := .int Mm) (C := RX9) (T := TX9) (N := 11) hx hb hts huX9 hown hE.1 hP 0 rfl rfl 7 (by decide) hk130 (fun _ h9 => h9) rfl dX9_runsOver_32 ?_
      refine lv_icmp_ge (tgt := 72) hx hb dX9_runsOver_35 (by decide) (fun c_1 => ?_) (fun c_1 => ?_)
      · have hf := (if_pos c_1).symm.trans hf
        exact J72 Mh Mm Ms Me Mp x2 hf _ _ hP hS _ (lv_sub hl [2] rfl)
      · have hf := (if_neg c_1).symm.trans hf
        refine lv_iload_n hx hb dX9_runsOver_38 rfl (lv_at hl 2 rfl) ?_
        refine lv_aload_n hx hb dX9_runsOver_39 rfl (lv_at hl 0 rfl) ?_
        refine va_get (D := D) (ci := 7) (v := .ref (q 17)) (C := RX9) (T := TX9) (N := 11) hx hb hts huX9 hown hE.1 hP 0 rfl rfl 4 (by decide) hk16 (fun _ h9 => h9) rfl dX9_runsOver_40 ?_
        refine lv_iload_n hx hb dX9_runsOver_43 rfl (lv_at hl 3 rfl) ?_
        obtain ⟨g_2, hf⟩ := gd_some hf
        refine va_iald hx hb hE.1 hP 2 0 rfl rfl (inb_in g_2) dX9_runsOver_44 ?_
        refine lv_iload_n hx hb dX9_runsOver_45 rfl (lv_at hl 1 rfl) ?_
        refine lv_icmp_gt (tgt := 63) hx hb dX9_runsOver_46 (by decide) (fun c_3 => ?_) (fun c_3 => ?_)
        · have hf := (if_pos c_3).symm.trans hf
          exact J63 Mh Mm Ms Me Mp x1 x3 x2 hf _ _ hP hS _ (lv_sub hl [0, 1, 3] rfl)
        · have hf := (if_neg c_3).symm.trans hf
          refine lv_iload_n hx hb dX9_runsOver_49 rfl (lv_at hl 1 rfl) ?_
          refine lv_aload_n hx hb dX9_runsOver_50 rfl (lv_at hl 0 rfl) ?_
          refine va_get (D := D) (ci := 7) (v := .ref (q 18)) (C := RX9) (T := TX9) (N := 11) hx hb hts huX9 hown hE.1 hP 0 rfl rfl 5 (by decide) hk19 (fun _ h9 => h9) rfl dX9_runsOver_51 ?_
          refine lv_iload_n hx hb dX9_runsOver_54 rfl (lv_at hl 3 rfl) ?_
          obtain ⟨g_4, hf⟩ := gd_some hf
          refine va_iald hx hb hE.1 hP 3 0 rfl rfl (inb_in g_4) dX9_runsOver_55 ?_
          refine lv_icmp_ge (tgt := 63) hx hb dX9_runsOver_56 (by decide) (fun c_5 => ?_) (fun c_5 => ?_)
          · have hf := (if_pos c_5).symm.trans hf
            exact J63 Mh Mm Ms Me Mp x1 x3 x2 hf _ _ hP hS _ (lv_sub hl [0, 1, 3] rfl)
          · have hf := (if_neg c_5).symm.trans hf
            refine lv_iconst (v := (1 : Int32)) hx hb dX9_runsOver_59 (by decide) ?_
            refine lv_goto (tgt := 64) hx hb dX9_runsOver_60 (by decide) ?_
            exact J64 Mh Mm Ms Me Mp x1 x3 x2 (1 : Int32) hf _ _ hP hS _ (lv_sub hl [0, 1, 3] rfl)
  have J14 : ∀ (Mh : Int32) (Mm : Int32) (Ms : (Nat → Int32)) (Me : (Nat → Int32)) (Mp : (Nat → Int32)) (x1 : Int32) (y1 : Int32), fX9_runsOver_J14 N Mn Mt Mh Mm Ms Me Mp x1 y1 = some (r0, Mh9, Mm9, Ms9, Me9, Mp9) → ∀ (H : Heap) (locs : List Loc), va_P D vwCl (w_14_15_17_18_19 q cI cJ cD Mh Mn Mm Mt Ms Me Mp) H → va_S (gA q [14, 15, 17, 18, 19]) s.heap H locs → ∀ ls : Array Slot, lv_has ls 4 [(0, .ref (q 14)), (1, .int x1)] → W p l e (headSpec wsX9_runsOver rX9_runsOver).room s m ([.ref (q 14), .int p1] : List Value).toArray below meth c H locs 0 0 (MQ below (gQ D (some (.int r0)) (w_14_15_17_18_19 q cI cJ cD Mh9 Mn Mm9 Mt Ms9 Me9 Mp9) (gA q [14, 15, 17, 18, 19])) ([.ref (q 14), .int p1] : List Value).toArray s 0 0 (gA q [14, 15, 17, 18, 19])) (F0 m 14 ls [.int y1, .ref (q 14)]) := by
    intro Mh Mm Ms Me Mp x1 y1 hf H locs hP hS ls hl
    unfold fX9_runsOver_J14 at hf
    obtain ⟨⟨r14, Mh14⟩, hc, hf⟩ := bn_some hf
    try dsimp only at hf
    refine g_call0 (ws' := (w_14_15_17_18_19 q cI cJ cD Mh14 Mn Mm Mt Ms Me Mp)) (st1 := [.int r14]) hq [14, 15, 17, 18, 19] [14] [.inl 0, .inr 1, .inr 2, .inr 3, .inr 4] (va_runV (As := [.int y1]) (rest := []) ⟨hx, hb, hml, hown, hts⟩ (kX9_goesWell l D cI cJ cD q hq N Mh Mn Mm y1 r14 Mh14 hc) (cwV 1 hts gX9_runsOver_X9_goesWell rfl rfl rfl (by decide +kernel) ⟨(Nat.le_of_ble_eq_true rfl), (Nat.le_of_ble_eq_true rfl)⟩) ⟨gP_blind, va_recv hE.1 hP (ci := 7) (q0 := 0) rfl rfl, fun U hU hW => ⟨rfl, by rw [hU]; exact hP.sub (ws' := (w_14 q cI cJ cD Mh Mn Mm)) [0] rfl, gEv.warm hW hE⟩⟩ rfl rfl hl.1 rfl (lv_room (Nat.le_of_ble_eq_true rfl)) dX9_runsOver_14 ⟨Nat.zero_le _, Nat.zero_le _⟩) hP hS (gSub rfl) rfl rfl rfl rfl rfl (fun H locs hP hS => ?_)
    refine lv_if_ne (tgt := 22) hx hb dX9_runsOver_17 (by decide) (fun c_6 => ?_) (fun c_6 => ?_)
    · have hf := (if_neg c_6).symm.trans hf
      refine lv_aload_n hx hb dX9_runsOver_22 rfl (lv_at hl 0 rfl) ?_
      obtain ⟨⟨Mm23, Ms23, Me23, Mp23⟩, hc, hf⟩ := bn_some hf
      try dsimp only at hf
      refine g_call0 (ws' := (w_14_15_17_18_19 q cI cJ cD Mh14 Mn Mm23 Mt Ms23 Me23 Mp23)) (st1 := []) hq [14, 15, 17, 18, 19] [14, 15, 17, 18, 19] [.inl 0, .inl 1, .inl 2, .inl 3, .inl 4] (va_runV (As := []) (rest := []) ⟨hx, hb, hml, hown, hts⟩ (kX9_layRuns l D cI cJ cD q hq N Mh14 Mn Mm Mt Ms Me Mp Mm23 Ms23 Me23 Mp23 hc) (cwV 0 hts gX9_runsOver_X9_layRuns rfl rfl rfl (by decide +kernel) ⟨(Nat.le_of_ble_eq_true rfl), (Nat.le_of_ble_eq_true rfl)⟩) ⟨gP_blind, va_recv hE.1 hP (ci := 7) (q0 := 0) rfl rfl, fun U hU hW => ⟨rfl, by rw [hU]; exact hP.sub (ws' := (w_14_15_17_18_19 q cI cJ cD Mh14 Mn Mm Mt Ms Me Mp)) [0, 1, 2, 3, 4] rfl, gEv.warm hW hE⟩⟩ rfl rfl hl.1 rfl (lv_room (Nat.le_of_ble_eq_true rfl)) dX9_runsOver_23 ⟨Nat.zero_le _, Nat.zero_le _⟩) hP hS (gSub rfl) rfl rfl rfl rfl rfl (fun H locs hP hS => ?_)
      refine lv_iconst (v := (0 : Int32)) hx hb dX9_runsOver_26 (by decide) ?_
      refine lv_istore_n (lv' := [(2, .int (0 : Int32)), (0, .ref (q 14)), (1, .int x1)]) hx hb dX9_runsOver_27 rfl hl (by decide) rfl (fun ls hl => ?_)
      refine lv_iconst (v := (0 : Int32)) hx hb dX9_runsOver_28 (by decide) ?_
      refine lv_istore_n (lv' := [(3, .int (0 : Int32)), (2, .int (0 : Int32)), (0, .ref (q 14)), (1, .int x1)]) hx hb dX9_runsOver_29 rfl hl (by decide) rfl (fun ls hl => ?_)
      exact K30 N Mh14 Mm23 Ms23 Me23 Mp23 x1 (0 : Int32) (0 : Int32) hf _ _ hP hS _ (lv_sub hl [2, 3, 1, 0] rfl)
    · have hf := (if_pos c_6).symm.trans hf
      refine lv_iconst (v := (0 : Int32)) hx hb dX9_runsOver_20 (by decide) ?_
      cases hf
      exact W.iret hx hb hr (fun t ht hW => ⟨⟨rfl, by rw [ht]; exact hP⟩, hS.F ht⟩) hS.2.2 dX9_runsOver_21
  unfold fX9_runsOver at hf
  refine lv_aload_n hx hb dX9_runsOver_0 rfl (lv_at hl 0 rfl) ?_
  refine lv_aload_n hx hb dX9_runsOver_1 rfl (lv_at hl 0 rfl) ?_
  refine lv_iload_n hx hb dX9_runsOver_2 rfl (lv_at hl 1 rfl) ?_
  obtain ⟨r3, hc, hf⟩ := bn_some hf
  try dsimp only at hf
  refine g_call0 (ws' := (w_14_15_17_18_19 q cI cJ cD Mh Mn Mm Mt Ms Me Mp)) (st1 := [.int r3, .ref (q 14)]) hq [14, 15, 17, 18, 19] [14] [.inl 0, .inr 1, .inr 2, .inr 3, .inr 4] (va_runV (As := [.int p1]) (rest := [.ref (q 14)]) ⟨hx, hb, hml, hown, hts⟩ (kX9_isPlace l D cI cJ cD q hq N Mh Mn Mm p1 r3 hc) (cwV 1 hts gX9_runsOver_X9_isPlace rfl rfl rfl (by decide +kernel) ⟨(Nat.le_of_ble_eq_true rfl), (Nat.le_of_ble_eq_true rfl)⟩) ⟨gP_blind, va_recv hE.1 hP (ci := 7) (q0 := 0) rfl rfl, fun U hU hW => ⟨rfl, by rw [hU]; exact hP.sub (ws' := (w_14 q cI cJ cD Mh Mn Mm)) [0] rfl, gEv.warm hW hE⟩⟩ rfl rfl hl.1 rfl (lv_room (Nat.le_of_ble_eq_true rfl)) dX9_runsOver_3 ⟨Nat.zero_le _, Nat.zero_le _⟩) hP hS (gSub rfl) rfl rfl rfl rfl rfl (fun H locs hP hS => ?_)
  refine lv_if_eq (tgt := 13) hx hb dX9_runsOver_6 (by decide) (fun c_7 => ?_) (fun c_7 => ?_)
  · have hf := (if_pos c_7).symm.trans hf
    refine lv_iconst (v := (1 : Int32)) hx hb dX9_runsOver_13 (by decide) ?_
    exact J14 Mh Mm Ms Me Mp p1 (1 : Int32) hf _ _ hP hS _ (lv_sub hl [0, 1] rfl)
  · have hf := (if_neg c_7).symm.trans hf
    refine lv_iconst (v := (0 : Int32)) hx hb dX9_runsOver_9 (by decide) ?_
    refine lv_goto (tgt := 14) hx hb dX9_runsOver_10 (by decide) ?_
    exact J14 Mh Mm Ms Me Mp p1 (0 : Int32) hf _ _ hP hS _ (lv_sub hl [0, 1] rfl)
set_option maxHeartbeats 4000000 in
set_option maxRecDepth 100000 in
theorem kX9_exponentsOfRuns (l : Launch) (D : va_G) (cI cJ cD : ClassId) (q : Nat → Nat) (hq : gInj q) (N : Nat) (Mh : Int32) (Mn : Int32) (Mm : Int32) (Mt : (Nat → Int32)) (Ms : (Nat → Int32)) (Me : (Nat → Int32)) (Mp : (Nat → Int32)) (r0 : UInt64) (Mh9 : Int32) (Mm9 : Int32) (Ms9 : (Nat → Int32)) (Me9 : (Nat → Int32)) (Mp9 : (Nat → Int32)) (hf : fX9_exponentsOfRuns N Mh Mn Mm Mt Ms Me Mp = some (r0, Mh9, Mm9, Ms9, Me9, Mp9)) : Met l yX9_exponentsOfRuns wsX9_exponentsOfRuns rX9_exponentsOfRuns (gP D cI cJ cD [.ref (q 14)] (w_14_15_17_18_19 q cI cJ cD Mh Mn Mm Mt Ms Me Mp)) (gQ D (some (.double r0)) (w_14_15_17_18_19 q cI cJ cD Mh9 Mn Mm9 Mt Ms9 Me9 Mp9) (gA q [14, 15, 17, 18, 19])) 0 0 (gA q [14, 15, 17, 18, 19]) := by
  refine Met.ofW (cc := cX9_exponentsOfRuns) (maxL := 4) (ret := (some .double)) (by decide +kernel) rfl ?_
  intro p e s m args below meth c s₁ B hml hv
  obtain ⟨rfl, hP, hE⟩ := hv
  have hx := B.exec
  have hb := B.bytes
  have hr := B.returns
  have hts := atoms_spec (ws := wsX9_exponentsOfRuns) B.pre
  have hown : s.vm.findClass RX9 = some m.cls := findClass_of_methodNamed B.named
  have hlocks := B.notSynchronized
  have hS : va_S (gA q [14, 15, 17, 18, 19]) s.heap s.heap [] := va_S.rf
  have hl := lv_entry ([.ref (q 14)]) (n := 4) (Nat.le_of_ble_eq_true rfl)
  rw [lg_entry_eq]
  generalize (lg_sl ([.ref (q 14)]) ++ List.replicate (4 - (lg_sl ([.ref (q 14)])).length) Slot.unset).toArray = ls at hl ⊢
  have hl : lv_has ls 4 [(0, .ref (q 14))] := hl
  have hDm : ∀ (z0 : Int32) (z1 : Int32) (z2 : Int32) (z3 : (Nat → Int32)) (z4 : (Nat → Int32)) (z5 : (Nat → Int32)) (z6 : (Nat → Int32)), va_D (gA q [14, 15, 17, 18, 19]) (w_14_15_17_18_19 q cI cJ cD z0 z1 z2 z3 z4 z5 z6) := fun _ _ _ _ _ _ _ => gD_of hq [14, 15, 17, 18, 19] rfl rfl rfl (fun k h => ⟨k, h, rfl⟩)
  have hk35 := hts (.fieldLink RX9 35 "LyndonTextModel" "thrown" "I") (by decide +kernel)
  have hk130 := hts (.fieldLink RX9 130 "LyndonTextModel" "runMany" "I") (by decide +kernel)
  have hk19 := hts (.fieldLink RX9 19 "LyndonTextModel" "ends" "[I") (by decide +kernel)
  have hk16 := hts (.fieldLink RX9 16 "LyndonTextModel" "starts" "[I") (by decide +kernel)
  have hk22 := hts (.fieldLink RX9 22 "LyndonTextModel" "runPeriods" "[I") (by decide +kernel)
  have huX9 : ∀ w ∈ u_ws RX9 TX9 11, w ∈ wsX9_exponentsOfRuns := by decide +kernel
  have J52 : ∀ (Mh : Int32) (Mm : Int32) (Ms : (Nat → Int32)) (Me : (Nat → Int32)) (Mp : (Nat → Int32)) (x1 : UInt64), fX9_exponentsOfRuns_J52 N Mn Mt Mh Mm Ms Me Mp x1 = some (r0, Mh9, Mm9, Ms9, Me9, Mp9) → ∀ (H : Heap) (locs : List Loc), va_P D vwCl (w_14_15_17_18_19 q cI cJ cD Mh Mn Mm Mt Ms Me Mp) H → va_S (gA q [14, 15, 17, 18, 19]) s.heap H locs → ∀ ls : Array Slot, lv_has ls 4 [(1, .double x1)] → W p l e (headSpec wsX9_exponentsOfRuns rX9_exponentsOfRuns).room s m ([.ref (q 14)] : List Value).toArray below meth c H locs 0 0 (MQ below (gQ D (some (.double r0)) (w_14_15_17_18_19 q cI cJ cD Mh9 Mn Mm9 Mt Ms9 Me9 Mp9) (gA q [14, 15, 17, 18, 19])) ([.ref (q 14)] : List Value).toArray s 0 0 (gA q [14, 15, 17, 18, 19])) (F0 m 52 ls []) := by
    intro Mh Mm Ms Me Mp x1 hf H locs hP hS ls hl
    unfold fX9_exponentsOfRuns_J52 at hf
    refine lv_dload_n hx hb dX9_exponentsOfRuns_52 rfl (lv_at hl 0 rfl) ?_
    cases hf
    exact W.dret hx hb hr (fun t ht hW => ⟨⟨rfl, by rw [ht]; exact hP⟩, hS.F ht⟩) hS.2.2 dX9_exponentsOfRuns_53
  have K13 : ∀ (n13 : Nat) (Mh : Int32) (Mm : Int32) (Ms : (Nat → Int32)) (Me : (Nat → Int32)) (Mp : (Nat → Int32)) (x1 : UInt64) (x3 : Int32), fX9_exponentsOfRuns_H13 N Mn Mt n13 Mh Mm Ms Me Mp x1 x3 = some (r0, Mh9, Mm9, Ms9, Me9, Mp9) → ∀ (H : Heap) (locs : List Loc), va_P D vwCl (w_14_15_17_18_19 q cI cJ cD Mh Mn Mm Mt Ms Me Mp) H → va_S (gA q [14, 15, 17, 18, 19]) s.heap H locs → ∀ ls : Array Slot, lv_has ls 4 [(0, .ref (q 14)), (1, .double x1), (3, .int x3)] → W p l e (headSpec wsX9_exponentsOfRuns rX9_exponentsOfRuns).room s m ([.ref (q 14)] : List Value).toArray below meth c H locs 0 0 (MQ below (gQ D (some (.double r0)) (w_14_15_17_18_19 q cI cJ cD Mh9 Mn Mm9 Mt Ms9 Me9 Mp9) (gA q [14, 15, 17, 18, 19])) ([.ref (q 14)] : List Value).toArray s 0 0 (gA q [14, 15, 17, 18, 19])) (F0 m 13 ls []) := by
    intro n13
    induction n13 with
    | zero =>
      intro Mh Mm Ms Me Mp x1 x3 hf
      exact nomatch (show (none : Option (UInt64 × Int32 × Int32 × (Nat → Int32) × (Nat → Int32) × (Nat → Int32))) = some (r0, Mh9, Mm9, Ms9, Me9, Mp9) from hf)
    | succ n13 ih13 =>
      intro Mh Mm Ms Me Mp x1 x3 hf H locs hP hS ls hl
      have hf : fX9_exponentsOfRuns_B13 N Mn Mt (fX9_exponentsOfRuns_H13 N Mn Mt n13) Mh Mm Ms Me Mp x1 x3 = some (r0, Mh9, Mm9, Ms9, Me9, Mp9) := hf
      unfold fX9_exponentsOfRuns_B13 at hf
      refine lv_iload_n hx hb dX9_exponentsOfRuns_13 rfl (lv_at hl 2 rfl) ?_
      refine lv_aload_n hx hb dX9_exponentsOfRuns_14 rfl (lv_at hl 0 rfl) ?_
      refine va_get (D := D) (ci := 7) (v := .int Mm) (C := RX9) (T := TX9) (N := 11) hx hb hts huX9 hown hE.1 hP 0 rfl rfl 7 (by decide) hk130 (fun _ h9 => h9) rfl dX9_exponentsOfRuns_15 ?_
      refine lv_icmp_ge (tgt := 52) hx hb dX9_exponentsOfRuns_18 (by decide) (fun c_1 => ?_) (fun c_1 => ?_)
      · have hf := (if_pos c_1).symm.trans hf
        exact J52 Mh Mm Ms Me Mp x1 hf _ _ hP hS _ (lv_sub hl [1] rfl)
      · have hf := (if_neg c_1).symm.trans hf
        refine lv_dload_n hx hb dX9_exponentsOfRuns_21 rfl (lv_at hl 1 rfl) ?_
        refine lv_aload_n hx hb dX9_exponentsOfRuns_22 rfl (lv_at hl 0 rfl) ?_
        refine va_get (D := D) (ci := 7) (v := .ref (q 18)) (C := RX9) (T := TX9) (N := 11) hx hb hts huX9 hown hE.1 hP 0 rfl rfl 5 (by decide) hk19 (fun _ h9 => h9) rfl dX9_exponentsOfRuns_23 ?_
        refine lv_iload_n hx hb dX9_exponentsOfRuns_26 rfl (lv_at hl 2 rfl) ?_
        obtain ⟨g_2, hf⟩ := gd_some hf
        refine va_iald hx hb hE.1 hP 3 0 rfl rfl (inb_in g_2) dX9_exponentsOfRuns_27 ?_
        refine lv_aload_n hx hb dX9_exponentsOfRuns_28 rfl (lv_at hl 0 rfl) ?_
        refine va_get (D := D) (ci := 7) (v := .ref (q 17)) (C := RX9) (T := TX9) (N := 11) hx hb hts huX9 hown hE.1 hP 0 rfl rfl 4 (by decide) hk16 (fun _ h9 => h9) rfl dX9_exponentsOfRuns_29 ?_
        refine lv_iload_n hx hb dX9_exponentsOfRuns_32 rfl (lv_at hl 2 rfl) ?_
        obtain ⟨g_3, hf⟩ := gd_some hf
        refine va_iald hx hb hE.1 hP 2 0 rfl rfl (inb_in g_3) dX9_exponentsOfRuns_33 ?_
        refine lv_isub hx hb dX9_exponentsOfRuns_34 ?_
        refine lv_i2d hx hb dX9_exponentsOfRuns_35 ?_
        refine lv_aload_n hx hb dX9_exponentsOfRuns_36 rfl (lv_at hl 0 rfl) ?_
        refine va_get (D := D) (ci := 7) (v := .ref (q 19)) (C := RX9) (T := TX9) (N := 11) hx hb hts huX9 hown hE.1 hP 0 rfl rfl 6 (by decide) hk22 (fun _ h9 => h9) rfl dX9_exponentsOfRuns_37 ?_
        refine lv_iload_n hx hb dX9_exponentsOfRuns_40 rfl (lv_at hl 2 rfl) ?_
        obtain ⟨g_4, hf⟩ := gd_some hf
        refine va_iald hx hb hE.1 hP 4 0 rfl rfl (inb_in g_4) dX9_exponentsOfRuns_41 ?_
        refine lv_i2d hx hb dX9_exponentsOfRuns_42 ?_
        obtain ⟨g_5, hf⟩ := gd_some hf
        refine lv_ddiv hx hb dX9_exponentsOfRuns_43 (nonan_n g_5) ?_
        obtain ⟨g_6, hf⟩ := gd_some hf
        refine lv_dadd hx hb dX9_exponentsOfRuns_44 (nonan_n g_6) ?_
        refine lv_dstore_n (lv' := [(1, .double (FP.dadd x1 (FP.ddiv (FP.i2d ((Me (x3).toNatClampNeg) - (Ms (x3).toNatClampNeg))) (FP.i2d (Mp (x3).toNatClampNeg))))), (0, .ref (q 14)), (3, .int x3)]) hx hb dX9_exponentsOfRuns_45 rfl hl (by decide) rfl (fun ls hl => ?_)
        refine lv_iinc (v := (x3 + 1)) (lv' := [(3, .int (x3 + 1)), (1, .double (FP.dadd x1 (FP.ddiv (FP.i2d ((Me (x3).toNatClampNeg) - (Ms (x3).toNatClampNeg))) (FP.i2d (Mp (x3).toNatClampNeg))))), (0, .ref (q 14))]) hx hb dX9_exponentsOfRuns_46 hl (k := 2) rfl rfl (by decide) rfl (fun ls hl => ?_)
        refine lv_goto (tgt := 13) hx hb dX9_exponentsOfRuns_49 (by decide) ?_
        exact ih13 Mh Mm Ms Me Mp (FP.dadd x1 (FP.ddiv (FP.i2d ((Me (x3).toNatClampNeg) - (Ms (x3).toNatClampNeg))) (FP.i2d (Mp (x3).toNatClampNeg)))) (x3 + 1) hf _ _ hP hS _ (lv_sub hl [2, 1, 0] rfl)
  unfold fX9_exponentsOfRuns at hf
  refine lv_aload_n hx hb dX9_exponentsOfRuns_0 rfl (lv_at hl 0 rfl) ?_
  refine lv_iconst (v := (0 : Int32)) hx hb dX9_exponentsOfRuns_1 (by decide) ?_
  refine va_put (D := D) (ci := 7) (v := .int (0 : Int32)) (ty := .int) (C := RX9) (T := TX9) (N := 11) hx hb hts huX9 tyX9 tyX9_ok nmX9 hown hE.1 hP (hDm Mh Mn Mm Mt Ms Me Mp) hS 0 rfl rfl 0 (by decide) hk35 (fun _ h9 => h9) rfl (by decide +kernel) rfl rfl (Nat.le_of_ble_eq_true rfl) dX9_exponentsOfRuns_2 (fun H locs hP _ hS => ?_)
  have hP : va_P D vwCl (w_14_15_17_18_19 q cI cJ cD (0 : Int32) Mn Mm Mt Ms Me Mp) H := hP
  refine lv_aload_n hx hb dX9_exponentsOfRuns_5 rfl (lv_at hl 0 rfl) ?_
  obtain ⟨⟨Mm6, Ms6, Me6, Mp6⟩, hc, hf⟩ := bn_some hf
  try dsimp only at hf
  refine g_call0 (ws' := (w_14_15_17_18_19 q cI cJ cD (0 : Int32) Mn Mm6 Mt Ms6 Me6 Mp6)) (st1 := []) hq [14, 15, 17, 18, 19] [14, 15, 17, 18, 19] [.inl 0, .inl 1, .inl 2, .inl 3, .inl 4] (va_runV (As := []) (rest := []) ⟨hx, hb, hml, hown, hts⟩ (kX9_layRuns l D cI cJ cD q hq N (0 : Int32) Mn Mm Mt Ms Me Mp Mm6 Ms6 Me6 Mp6 hc) (cwV 0 hts gX9_exponentsOfRuns_X9_layRuns rfl rfl rfl (by decide +kernel) ⟨(Nat.le_of_ble_eq_true rfl), (Nat.le_of_ble_eq_true rfl)⟩) ⟨gP_blind, va_recv hE.1 hP (ci := 7) (q0 := 0) rfl rfl, fun U hU hW => ⟨rfl, by rw [hU]; exact hP.sub (ws' := (w_14_15_17_18_19 q cI cJ cD (0 : Int32) Mn Mm Mt Ms Me Mp)) [0, 1, 2, 3, 4] rfl, gEv.warm hW hE⟩⟩ rfl rfl hl.1 rfl (lv_room (Nat.le_of_ble_eq_true rfl)) dX9_exponentsOfRuns_6 ⟨Nat.zero_le _, Nat.zero_le _⟩) hP hS (gSub rfl) rfl rfl rfl rfl rfl (fun H locs hP hS => ?_)
  refine lv_dconst0 hx hb dX9_exponentsOfRuns_9 ?_
  refine lv_dstore_n (lv' := [(1, .double FP.dconst0), (0, .ref (q 14))]) hx hb dX9_exponentsOfRuns_10 rfl hl (by decide) rfl (fun ls hl => ?_)
  refine lv_iconst (v := (0 : Int32)) hx hb dX9_exponentsOfRuns_11 (by decide) ?_
  refine lv_istore_n (lv' := [(3, .int (0 : Int32)), (1, .double FP.dconst0), (0, .ref (q 14))]) hx hb dX9_exponentsOfRuns_12 rfl hl (by decide) rfl (fun ls hl => ?_)
  exact K13 N (0 : Int32) Mm6 Ms6 Me6 Mp6 FP.dconst0 (0 : Int32) hf _ _ hP hS _ (lv_sub hl [2, 1, 0] rfl)
set_option maxHeartbeats 4000000 in
set_option maxRecDepth 100000 in
theorem kX9_squares (l : Launch) (D : va_G) (cI cJ cD : ClassId) (q : Nat → Nat) (hq : gInj q) (N : Nat) (Mh : Int32) (Mn : Int32) (Mm : Int32) (Mt : (Nat → Int32)) (r0 : Int32) (Mh9 : Int32) (hf : fX9_squares N Mh Mn Mm Mt = some (r0, Mh9)) : Met l yX9_squares wsX9_squares rX9_squares (gP D cI cJ cD [.ref (q 14)] (w_14_15 q cI cJ cD Mh Mn Mm Mt)) (gQ D (some (.int r0)) (w_14_15 q cI cJ cD Mh9 Mn Mm Mt) (gA q [14, 15])) 0 0 (gA q [14, 15]) := by
  refine Met.ofW (cc := cX9_squares) (maxL := 5) (ret := (some .int)) (by decide +kernel) rfl ?_
  intro p e s m args below meth c s₁ B hml hv
  obtain ⟨rfl, hP, hE⟩ := hv
  have hx := B.exec
  have hb := B.bytes
  have hr := B.returns
  have hts := atoms_spec (ws := wsX9_squares) B.pre
  have hown : s.vm.findClass RX9 = some m.cls := findClass_of_methodNamed B.named
  have hlocks := B.notSynchronized
  have hS : va_S (gA q [14, 15]) s.heap s.heap [] := va_S.rf
  have hl := lv_entry ([.ref (q 14)]) (n := 5) (Nat.le_of_ble_eq_true rfl)
  rw [lg_entry_eq]
  generalize (lg_sl ([.ref (q 14)]) ++ List.replicate (5 - (lg_sl ([.ref (q 14)])).length) Slot.unset).toArray = ls at hl ⊢
  have hl : lv_has ls 5 [(0, .ref (q 14))] := hl
  have hDm : ∀ (z0 : Int32) (z1 : Int32) (z2 : Int32) (z3 : (Nat → Int32)), va_D (gA q [14, 15]) (w_14_15 q cI cJ cD z0 z1 z2 z3) := fun _ _ _ _ => gD_of hq [14, 15] rfl rfl rfl (fun k h => ⟨k, h, rfl⟩)
  have hk35 := hts (.fieldLink RX9 35 "LyndonTextModel" "thrown" "I") (by decide +kernel)
  have hk39 := hts (.fieldLink RX9 39 "LyndonTextModel" "length" "I") (by decide +kernel)
  have huX9 : ∀ w ∈ u_ws RX9 TX9 11, w ∈ wsX9_squares := by decide +kernel
  have J95 : ∀ (Mh : Int32) (x1 : Int32), fX9_squares_J95 N Mn Mm Mt Mh x1 = some (r0, Mh9) → ∀ (H : Heap) (locs : List Loc), va_P D vwCl (w_14_15 q cI cJ cD Mh Mn Mm Mt) H → va_S (gA q [14, 15]) s.heap H locs → ∀ ls : Array Slot, lv_has ls 5 [(1, .int x1)] → W p l e (headSpec wsX9_squares rX9_squares).room s m ([.ref (q 14)] : List Value).toArray below meth c H locs 0 0 (MQ below (gQ D (some (.int r0)) (w_14_15 q cI cJ cD Mh9 Mn Mm Mt) (gA q [14, 15])) ([.ref (q 14)] : List Value).toArray s 0 0 (gA q [14, 15])) (F0 m 95 ls []) := by
    intro Mh x1 hf H locs hP hS ls hl
    unfold fX9_squares_J95 at hf
    refine lv_iload_n hx hb dX9_squares_95 rfl (lv_at hl 0 rfl) ?_
    cases hf
    exact W.iret hx hb hr (fun t ht hW => ⟨⟨rfl, by rw [ht]; exact hP⟩, hS.F ht⟩) hS.2.2 dX9_squares_96
  have K9 : ∀ (n9 : Nat) (Mh : Int32) (x1 : Int32) (x2 : Int32), fX9_squares_H9 N Mn Mm Mt n9 Mh x1 x2 = some (r0, Mh9) → ∀ (H : Heap) (locs : List Loc), va_P D vwCl (w_14_15 q cI cJ cD Mh Mn Mm Mt) H → va_S (gA q [14, 15]) s.heap H locs → ∀ ls : Array Slot, lv_has ls 5 [(0, .ref (q 14)), (1, .int x1), (2, .int x2)] → W p l e (headSpec wsX9_squares rX9_squares).room s m ([.ref (q 14)] : List Value).toArray below meth c H locs 0 0 (MQ below (gQ D (some (.int r0)) (w_14_15 q cI cJ cD Mh9 Mn Mm Mt) (gA q [14, 15])) ([.ref (q 14)] : List Value).toArray s 0 0 (gA q [14, 15])) (F0 m 9 ls []) := by
    intro n9
    induction n9 with
    | zero =>
      intro Mh x1 x2 hf
      exact nomatch (show (none : Option (Int32 × Int32)) = some (r0, Mh9) from hf)
    | succ n9 ih9 =>
      have J89 : ∀ (Mh : Int32) (x1 : Int32) (x2 : Int32), fX9_squares_J89 N Mn Mm Mt (fX9_squares_H9 N Mn Mm Mt n9) Mh x1 x2 = some (r0, Mh9) → ∀ (H : Heap) (locs : List Loc), va_P D vwCl (w_14_15 q cI cJ cD Mh Mn Mm Mt) H → va_S (gA q [14, 15]) s.heap H locs → ∀ ls : Array Slot, lv_has ls 5 [(0, .ref (q 14)), (1, .int x1), (2, .int x2)] → W p l e (headSpec wsX9_squares rX9_squares).room s m ([.ref (q 14)] : List Value).toArray below meth c H locs 0 0 (MQ below (gQ D (some (.int r0)) (w_14_15 q cI cJ cD Mh9 Mn Mm Mt) (gA q [14, 15])) ([.ref (q 14)] : List Value).toArray s 0 0 (gA q [14, 15])) (F0 m 89 ls []) := by
        intro Mh x1 x2 hf H locs hP hS ls hl
        unfold fX9_squares_J89 at hf
        refine lv_iinc (v := (x2 + 1)) (lv' := [(2, .int (x2 + 1)), (0, .ref (q 14)), (1, .int x1)]) hx hb dX9_squares_89 hl (k := 2) rfl rfl (by decide) rfl (fun ls hl => ?_)
        refine lv_goto (tgt := 9) hx hb dX9_squares_92 (by decide) ?_
        exact ih9 Mh x1 (x2 + 1) hf _ _ hP hS _ (lv_sub hl [1, 2, 0] rfl)
      have K19 : ∀ (n19 : Nat) (Mh : Int32) (x1 : Int32) (x2 : Int32) (x3 : Int32), fX9_squares_H19 N Mn Mm Mt (fX9_squares_H9 N Mn Mm Mt n9) n19 Mh x1 x2 x3 = some (r0, Mh9) → ∀ (H : Heap) (locs : List Loc), va_P D vwCl (w_14_15 q cI cJ cD Mh Mn Mm Mt) H → va_S (gA q [14, 15]) s.heap H locs → ∀ ls : Array Slot, lv_has ls 5 [(0, .ref (q 14)), (1, .int x1), (2, .int x2), (3, .int x3)] → W p l e (headSpec wsX9_squares rX9_squares).room s m ([.ref (q 14)] : List Value).toArray below meth c H locs 0 0 (MQ below (gQ D (some (.int r0)) (w_14_15 q cI cJ cD Mh9 Mn Mm Mt) (gA q [14, 15])) ([.ref (q 14)] : List Value).toArray s 0 0 (gA q [14, 15])) (F0 m 19 ls []) := by
        intro n19
        induction n19 with
        | zero =>
          intro Mh x1 x2 x3 hf
          exact nomatch (show (none : Option (Int32 × Int32)) = some (r0, Mh9) from hf)
        | succ n19 ih19 =>
          have J81 : ∀ (Mh : Int32) (x2 : Int32) (x3 : Int32) (y0 : Int32) (y1 : Int32), fX9_squares_J81 N Mn Mm Mt (fX9_squares_H9 N Mn Mm Mt n9) (fX9_squares_H19 N Mn Mm Mt (fX9_squares_H9 N Mn Mm Mt n9) n19) Mh x2 x3 y0 y1 = some (r0, Mh9) → ∀ (H : Heap) (locs : List Loc), va_P D vwCl (w_14_15 q cI cJ cD Mh Mn Mm Mt) H → va_S (gA q [14, 15]) s.heap H locs → ∀ ls : Array Slot, lv_has ls 5 [(0, .ref (q 14)), (2, .int x2), (3, .int x3)] → W p l e (headSpec wsX9_squares rX9_squares).room s m ([.ref (q 14)] : List Value).toArray below meth c H locs 0 0 (MQ below (gQ D (some (.int r0)) (w_14_15 q cI cJ cD Mh9 Mn Mm Mt) (gA q [14, 15])) ([.ref (q 14)] : List Value).toArray s 0 0 (gA q [14, 15])) (F0 m 81 ls [.int y1, .int y0]) := by
            intro Mh x2 x3 y0 y1 hf H locs hP hS ls hl
            unfold fX9_squares_J81 at hf
            refine lv_iadd hx hb dX9_squares_81 ?_
            refine lv_istore_n (lv' := [(1, .int (y0 + y1)), (0, .ref (q 14)), (2, .int x2), (3, .int x3)]) hx hb dX9_squares_82 rfl hl (by decide) rfl (fun ls hl => ?_)
            refine lv_iinc (v := (x3 + 1)) (lv' := [(3, .int (x3 + 1)), (1, .int (y0 + y1)), (0, .ref (q 14)), (2, .int x2)]) hx hb dX9_squares_83 hl (k := 3) rfl rfl (by decide) rfl (fun ls hl => ?_)
            refine lv_goto (tgt := 19) hx hb dX9_squares_86 (by decide) ?_
            exact ih19 Mh (y0 + y1) x2 (x3 + 1) hf _ _ hP hS _ (lv_sub hl [2, 1, 3, 0] rfl)
          have J80 : ∀ (Mh : Int32) (x2 : Int32) (x3 : Int32) (y0 : Int32), fX9_squares_J80 N Mn Mm Mt (fX9_squares_H9 N Mn Mm Mt n9) (fX9_squares_H19 N Mn Mm Mt (fX9_squares_H9 N Mn Mm Mt n9) n19) Mh x2 x3 y0 = some (r0, Mh9) → ∀ (H : Heap) (locs : List Loc), va_P D vwCl (w_14_15 q cI cJ cD Mh Mn Mm Mt) H → va_S (gA q [14, 15]) s.heap H locs → ∀ ls : Array Slot, lv_has ls 5 [(0, .ref (q 14)), (2, .int x2), (3, .int x3)] → W p l e (headSpec wsX9_squares rX9_squares).room s m ([.ref (q 14)] : List Value).toArray below meth c H locs 0 0 (MQ below (gQ D (some (.int r0)) (w_14_15 q cI cJ cD Mh9 Mn Mm Mt) (gA q [14, 15])) ([.ref (q 14)] : List Value).toArray s 0 0 (gA q [14, 15])) (F0 m 80 ls [.int y0]) := by
            intro Mh x2 x3 y0 hf H locs hP hS ls hl
            unfold fX9_squares_J80 at hf
            refine lv_iconst (v := (0 : Int32)) hx hb dX9_squares_80 (by decide) ?_
            exact J81 Mh x2 x3 y0 (0 : Int32) hf _ _ hP hS _ (lv_sub hl [0, 1, 2] rfl)
          have J56 : ∀ (Mh : Int32) (x1 : Int32) (x2 : Int32) (x3 : Int32) (y0 : Int32), fX9_squares_J56 N Mn Mm Mt (fX9_squares_H9 N Mn Mm Mt n9) (fX9_squares_H19 N Mn Mm Mt (fX9_squares_H9 N Mn Mm Mt n9) n19) Mh x1 x2 x3 y0 = some (r0, Mh9) → ∀ (H : Heap) (locs : List Loc), va_P D vwCl (w_14_15 q cI cJ cD Mh Mn Mm Mt) H → va_S (gA q [14, 15]) s.heap H locs → ∀ ls : Array Slot, lv_has ls 5 [(0, .ref (q 14)), (1, .int x1), (2, .int x2), (3, .int x3)] → W p l e (headSpec wsX9_squares rX9_squares).room s m ([.ref (q 14)] : List Value).toArray below meth c H locs 0 0 (MQ below (gQ D (some (.int r0)) (w_14_15 q cI cJ cD Mh9 Mn Mm Mt) (gA q [14, 15])) ([.ref (q 14)] : List Value).toArray s 0 0 (gA q [14, 15])) (F0 m 56 ls [.int y0]) := by
            intro Mh x1 x2 x3 y0 hf H locs hP hS ls hl
            unfold fX9_squares_J56 at hf
            refine lv_istore (lv' := [(4, .int y0), (0, .ref (q 14)), (1, .int x1), (2, .int x2), (3, .int x3)]) hx hb dX9_squares_56 hl (by decide) rfl (fun ls hl => ?_)
            refine lv_iload_n hx hb dX9_squares_58 rfl (lv_at hl 2 rfl) ?_
            refine lv_iload hx hb dX9_squares_59 (lv_at hl 0 rfl) ?_
            refine lv_if_eq (tgt := 80) hx hb dX9_squares_61 (by decide) (fun c_1 => ?_) (fun c_1 => ?_)
            · have hf := (if_pos c_1).symm.trans hf
              exact J80 Mh x2 x3 x1 hf _ _ hP hS _ (lv_sub hl [1, 3, 4] rfl)
            · have hf := (if_neg c_1).symm.trans hf
              refine lv_aload_n hx hb dX9_squares_64 rfl (lv_at hl 1 rfl) ?_
              refine lv_iload_n hx hb dX9_squares_65 rfl (lv_at hl 3 rfl) ?_
              refine lv_iload_n hx hb dX9_squares_66 rfl (lv_at hl 3 rfl) ?_
              refine lv_iload_n hx hb dX9_squares_67 rfl (lv_at hl 4 rfl) ?_
              refine lv_iadd hx hb dX9_squares_68 ?_
              obtain ⟨r69, hc, hf⟩ := bn_some hf
              try dsimp only at hf
              refine g_call0 (ws' := (w_14_15 q cI cJ cD Mh Mn Mm Mt)) (st1 := [.int r69, .int x1]) hq [14, 15] [14, 15] [.inl 0, .inl 1] (va_runV (As := [.int x2, .int (x2 + x3)]) (rest := [.int x1]) ⟨hx, hb, hml, hown, hts⟩ (kX9_root l D cI cJ cD q hq N Mh Mn Mm Mt x2 (x2 + x3) r69 hc) (cwV 2 hts gX9_squares_X9_root rfl rfl rfl (by decide +kernel) ⟨(Nat.le_of_ble_eq_true rfl), (Nat.le_of_ble_eq_true rfl)⟩) ⟨gP_blind, va_recv hE.1 hP (ci := 7) (q0 := 0) rfl rfl, fun U hU hW => ⟨rfl, by rw [hU]; exact hP.sub (ws' := (w_14_15 q cI cJ cD Mh Mn Mm Mt)) [0, 1] rfl, gEv.warm hW hE⟩⟩ rfl rfl hl.1 rfl (lv_room (Nat.le_of_ble_eq_true rfl)) dX9_squares_69 ⟨Nat.zero_le _, Nat.zero_le _⟩) hP hS (gSub rfl) rfl rfl rfl rfl rfl (fun H locs hP hS => ?_)
              refine lv_iload_n hx hb dX9_squares_72 rfl (lv_at hl 4 rfl) ?_
              refine lv_icmp_ne (tgt := 80) hx hb dX9_squares_73 (by decide) (fun c_2 => ?_) (fun c_2 => ?_)
              · have hf := (if_neg c_2).symm.trans hf
                exact J80 Mh x2 x3 x1 hf _ _ hP hS _ (lv_sub hl [1, 3, 4] rfl)
              · have hf := (if_pos c_2).symm.trans hf
                refine lv_iconst (v := (1 : Int32)) hx hb dX9_squares_76 (by decide) ?_
                refine lv_goto (tgt := 81) hx hb dX9_squares_77 (by decide) ?_
                exact J81 Mh x2 x3 x1 (1 : Int32) hf _ _ hP hS _ (lv_sub hl [1, 3, 4] rfl)
          intro Mh x1 x2 x3 hf H locs hP hS ls hl
          have hf : fX9_squares_B19 N Mn Mm Mt (fX9_squares_H9 N Mn Mm Mt n9) (fX9_squares_H19 N Mn Mm Mt (fX9_squares_H9 N Mn Mm Mt n9) n19) Mh x1 x2 x3 = some (r0, Mh9) := hf
          unfold fX9_squares_B19 at hf
          refine lv_iload_n hx hb dX9_squares_19 rfl (lv_at hl 2 rfl) ?_
          refine lv_iconst (v := (2 : Int32)) hx hb dX9_squares_20 (by decide) ?_
          refine lv_iload_n hx hb dX9_squares_21 rfl (lv_at hl 3 rfl) ?_
          refine lv_imul hx hb dX9_squares_22 ?_
          refine lv_iadd hx hb dX9_squares_23 ?_
          refine lv_aload_n hx hb dX9_squares_24 rfl (lv_at hl 0 rfl) ?_
          refine va_get (D := D) (ci := 7) (v := .int Mn) (C := RX9) (T := TX9) (N := 11) hx hb hts huX9 hown hE.1 hP 0 rfl rfl 1 (by decide) hk39 (fun _ h9 => h9) rfl dX9_squares_25 ?_
          refine lv_icmp_gt (tgt := 89) hx hb dX9_squares_28 (by decide) (fun c_3 => ?_) (fun c_3 => ?_)
          · have hf := (if_pos c_3).symm.trans hf
            exact J89 Mh x1 x2 hf _ _ hP hS _ (lv_sub hl [0, 1, 2] rfl)
          · have hf := (if_neg c_3).symm.trans hf
            refine lv_aload_n hx hb dX9_squares_31 rfl (lv_at hl 0 rfl) ?_
            refine lv_iload_n hx hb dX9_squares_32 rfl (lv_at hl 2 rfl) ?_
            refine lv_iload_n hx hb dX9_squares_33 rfl (lv_at hl 2 rfl) ?_
            refine lv_iload_n hx hb dX9_squares_34 rfl (lv_at hl 3 rfl) ?_
            refine lv_iadd hx hb dX9_squares_35 ?_
            refine lv_iload_n hx hb dX9_squares_36 rfl (lv_at hl 2 rfl) ?_
            refine lv_iload_n hx hb dX9_squares_37 rfl (lv_at hl 3 rfl) ?_
            refine lv_iadd hx hb dX9_squares_38 ?_
            refine lv_iload_n hx hb dX9_squares_39 rfl (lv_at hl 2 rfl) ?_
            refine lv_iconst (v := (2 : Int32)) hx hb dX9_squares_40 (by decide) ?_
            refine lv_iload_n hx hb dX9_squares_41 rfl (lv_at hl 3 rfl) ?_
            refine lv_imul hx hb dX9_squares_42 ?_
            refine lv_iadd hx hb dX9_squares_43 ?_
            obtain ⟨r44, hc, hf⟩ := bn_some hf
            try dsimp only at hf
            refine g_call0 (ws' := (w_14_15 q cI cJ cD Mh Mn Mm Mt)) (st1 := [.int r44]) hq [14, 15] [14, 15] [.inl 0, .inl 1] (va_runV (As := [.int x2, .int (x2 + x3), .int (x2 + x3), .int (x2 + ((2 : Int32) * x3))]) (rest := []) ⟨hx, hb, hml, hown, hts⟩ (kX9_same l D cI cJ cD q hq N Mh Mn Mm Mt x2 (x2 + x3) (x2 + x3) (x2 + ((2 : Int32) * x3)) r44 hc) (cwV 4 hts gX9_squares_X9_same rfl rfl rfl (by decide +kernel) ⟨(Nat.le_of_ble_eq_true rfl), (Nat.le_of_ble_eq_true rfl)⟩) ⟨gP_blind, va_recv hE.1 hP (ci := 7) (q0 := 0) rfl rfl, fun U hU hW => ⟨rfl, by rw [hU]; exact hP.sub (ws' := (w_14_15 q cI cJ cD Mh Mn Mm Mt)) [0, 1] rfl, gEv.warm hW hE⟩⟩ rfl rfl hl.1 rfl (lv_room (Nat.le_of_ble_eq_true rfl)) dX9_squares_44 ⟨Nat.zero_le _, Nat.zero_le _⟩) hP hS (gSub rfl) rfl rfl rfl rfl rfl (fun H locs hP hS => ?_)
            refine lv_iload_n hx hb dX9_squares_47 rfl (lv_at hl 3 rfl) ?_
            refine lv_icmp_ne (tgt := 55) hx hb dX9_squares_48 (by decide) (fun c_4 => ?_) (fun c_4 => ?_)
            · have hf := (if_neg c_4).symm.trans hf
              refine lv_iconst (v := (0 : Int32)) hx hb dX9_squares_55 (by decide) ?_
              exact J56 Mh x1 x2 x3 (0 : Int32) hf _ _ hP hS _ (lv_sub hl [0, 1, 2, 3] rfl)
            · have hf := (if_pos c_4).symm.trans hf
              refine lv_iconst (v := (1 : Int32)) hx hb dX9_squares_51 (by decide) ?_
              refine lv_goto (tgt := 56) hx hb dX9_squares_52 (by decide) ?_
              exact J56 Mh x1 x2 x3 (1 : Int32) hf _ _ hP hS _ (lv_sub hl [0, 1, 2, 3] rfl)
      intro Mh x1 x2 hf H locs hP hS ls hl
      have hf : fX9_squares_B9 N Mn Mm Mt (fX9_squares_H9 N Mn Mm Mt n9) Mh x1 x2 = some (r0, Mh9) := hf
      unfold fX9_squares_B9 at hf
      refine lv_iload_n hx hb dX9_squares_9 rfl (lv_at hl 2 rfl) ?_
      refine lv_aload_n hx hb dX9_squares_10 rfl (lv_at hl 0 rfl) ?_
      refine va_get (D := D) (ci := 7) (v := .int Mn) (C := RX9) (T := TX9) (N := 11) hx hb hts huX9 hown hE.1 hP 0 rfl rfl 1 (by decide) hk39 (fun _ h9 => h9) rfl dX9_squares_11 ?_
      refine lv_icmp_ge (tgt := 95) hx hb dX9_squares_14 (by decide) (fun c_5 => ?_) (fun c_5 => ?_)
      · have hf := (if_pos c_5).symm.trans hf
        exact J95 Mh x1 hf _ _ hP hS _ (lv_sub hl [1] rfl)
      · have hf := (if_neg c_5).symm.trans hf
        refine lv_iconst (v := (1 : Int32)) hx hb dX9_squares_17 (by decide) ?_
        refine lv_istore_n (lv' := [(3, .int (1 : Int32)), (0, .ref (q 14)), (1, .int x1), (2, .int x2)]) hx hb dX9_squares_18 rfl hl (by decide) rfl (fun ls hl => ?_)
        exact K19 N Mh x1 x2 (1 : Int32) hf _ _ hP hS _ (lv_sub hl [1, 2, 3, 0] rfl)
  unfold fX9_squares at hf
  refine lv_aload_n hx hb dX9_squares_0 rfl (lv_at hl 0 rfl) ?_
  refine lv_iconst (v := (0 : Int32)) hx hb dX9_squares_1 (by decide) ?_
  refine va_put (D := D) (ci := 7) (v := .int (0 : Int32)) (ty := .int) (C := RX9) (T := TX9) (N := 11) hx hb hts huX9 tyX9 tyX9_ok nmX9 hown hE.1 hP (hDm Mh Mn Mm Mt) hS 0 rfl rfl 0 (by decide) hk35 (fun _ h9 => h9) rfl (by decide +kernel) rfl rfl (Nat.le_of_ble_eq_true rfl) dX9_squares_2 (fun H locs hP _ hS => ?_)
  have hP : va_P D vwCl (w_14_15 q cI cJ cD (0 : Int32) Mn Mm Mt) H := hP
  refine lv_iconst (v := (0 : Int32)) hx hb dX9_squares_5 (by decide) ?_
  refine lv_istore_n (lv' := [(1, .int (0 : Int32)), (0, .ref (q 14))]) hx hb dX9_squares_6 rfl hl (by decide) rfl (fun ls hl => ?_)
  refine lv_iconst (v := (0 : Int32)) hx hb dX9_squares_7 (by decide) ?_
  refine lv_istore_n (lv' := [(2, .int (0 : Int32)), (1, .int (0 : Int32)), (0, .ref (q 14))]) hx hb dX9_squares_8 rfl hl (by decide) rfl (fun ls hl => ?_)
  exact K9 N (0 : Int32) (0 : Int32) (0 : Int32) hf _ _ hP hS _ (lv_sub hl [2, 1, 0] rfl)
set_option maxHeartbeats 4000000 in
set_option maxRecDepth 100000 in
theorem kX9_rank (l : Launch) (D : va_G) (cI cJ cD : ClassId) (q : Nat → Nat) (hq : gInj q) (N : Nat) (Mh : Int32) (Mn : Int32) (Mm : Int32) (Mt : (Nat → Int32)) (p1 : Int32) (r0 : Int32) (hf : fX9_rank N Mh Mn Mm Mt p1 = some r0) : Met l yX9_rank wsX9_rank rX9_rank (gP D cI cJ cD [.ref (q 14), .int p1] (w_14_15 q cI cJ cD Mh Mn Mm Mt)) (gQ D (some (.int r0)) (w_14_15 q cI cJ cD Mh Mn Mm Mt) (gA q [14, 15])) 0 0 (gA q [14, 15]) := by
  refine Met.ofW (cc := cX9_rank) (maxL := 4) (ret := (some .int)) (by decide +kernel) rfl ?_
  intro p e s m args below meth c s₁ B hml hv
  obtain ⟨rfl, hP, hE⟩ := hv
  have hx := B.exec
  have hb := B.bytes
  have hr := B.returns
  have hts := atoms_spec (ws := wsX9_rank) B.pre
  have hown : s.vm.findClass RX9 = some m.cls := findClass_of_methodNamed B.named
  have hlocks := B.notSynchronized
  have hS : va_S (gA q [14, 15]) s.heap s.heap [] := va_S.rf
  have hl := lv_entry ([.ref (q 14), .int p1]) (n := 4) (Nat.le_of_ble_eq_true rfl)
  rw [lg_entry_eq]
  generalize (lg_sl ([.ref (q 14), .int p1]) ++ List.replicate (4 - (lg_sl ([.ref (q 14), .int p1])).length) Slot.unset).toArray = ls at hl ⊢
  have hl : lv_has ls 4 [(0, .ref (q 14)), (1, .int p1)] := hl
  have hk39 := hts (.fieldLink RX9 39 "LyndonTextModel" "length" "I") (by decide +kernel)
  have huX9 : ∀ w ∈ u_ws RX9 TX9 11, w ∈ wsX9_rank := by decide +kernel
  have J44 : ∀ (x2 : Int32), fX9_rank_J44 N Mh Mn Mm Mt x2 = some r0 → ∀ (H : Heap) (locs : List Loc), va_P D vwCl (w_14_15 q cI cJ cD Mh Mn Mm Mt) H → va_S (gA q [14, 15]) s.heap H locs → ∀ ls : Array Slot, lv_has ls 4 [(2, .int x2)] → W p l e (headSpec wsX9_rank rX9_rank).room s m ([.ref (q 14), .int p1] : List Value).toArray below meth c H locs 0 0 (MQ below (gQ D (some (.int r0)) (w_14_15 q cI cJ cD Mh Mn Mm Mt) (gA q [14, 15])) ([.ref (q 14), .int p1] : List Value).toArray s 0 0 (gA q [14, 15])) (F0 m 44 ls []) := by
    intro x2 hf H locs hP hS ls hl
    unfold fX9_rank_J44 at hf
    refine lv_iload_n hx hb dX9_rank_44 rfl (lv_at hl 0 rfl) ?_
    cases hf
    exact W.iret hx hb hr (fun t ht hW => ⟨⟨rfl, by rw [ht]; exact hP⟩, hS.F ht⟩) hS.2.2 dX9_rank_45
  have K4 : ∀ (n4 : Nat) (x1 : Int32) (x2 : Int32) (x3 : Int32), fX9_rank_H4 N Mh Mn Mm Mt n4 x1 x2 x3 = some r0 → ∀ (H : Heap) (locs : List Loc), va_P D vwCl (w_14_15 q cI cJ cD Mh Mn Mm Mt) H → va_S (gA q [14, 15]) s.heap H locs → ∀ ls : Array Slot, lv_has ls 4 [(0, .ref (q 14)), (1, .int x1), (2, .int x2), (3, .int x3)] → W p l e (headSpec wsX9_rank rX9_rank).room s m ([.ref (q 14), .int p1] : List Value).toArray below meth c H locs 0 0 (MQ below (gQ D (some (.int r0)) (w_14_15 q cI cJ cD Mh Mn Mm Mt) (gA q [14, 15])) ([.ref (q 14), .int p1] : List Value).toArray s 0 0 (gA q [14, 15])) (F0 m 4 ls []) := by
    intro n4
    induction n4 with
    | zero =>
      intro x1 x2 x3 hf
      exact nomatch (show (none : Option Int32) = some r0 from hf)
    | succ n4 ih4 =>
      have J36 : ∀ (x1 : Int32) (x3 : Int32) (y0 : Int32) (y1 : Int32), fX9_rank_J36 N Mh Mn Mm Mt (fX9_rank_H4 N Mh Mn Mm Mt n4) x1 x3 y0 y1 = some r0 → ∀ (H : Heap) (locs : List Loc), va_P D vwCl (w_14_15 q cI cJ cD Mh Mn Mm Mt) H → va_S (gA q [14, 15]) s.heap H locs → ∀ ls : Array Slot, lv_has ls 4 [(0, .ref (q 14)), (1, .int x1), (3, .int x3)] → W p l e (headSpec wsX9_rank rX9_rank).room s m ([.ref (q 14), .int p1] : List Value).toArray below meth c H locs 0 0 (MQ below (gQ D (some (.int r0)) (w_14_15 q cI cJ cD Mh Mn Mm Mt) (gA q [14, 15])) ([.ref (q 14), .int p1] : List Value).toArray s 0 0 (gA q [14, 15])) (F0 m 36 ls [.int y1, .int y0]) := by
        intro x1 x3 y0 y1 hf H locs hP hS ls hl
        unfold fX9_rank_J36 at hf
        refine lv_iadd hx hb dX9_rank_36 ?_
        refine lv_istore_n (lv' := [(2, .int (y0 + y1)), (0, .ref (q 14)), (1, .int x1), (3, .int x3)]) hx hb dX9_rank_37 rfl hl (by decide) rfl (fun ls hl => ?_)
        refine lv_iinc (v := (x3 + 1)) (lv' := [(3, .int (x3 + 1)), (2, .int (y0 + y1)), (0, .ref (q 14)), (1, .int x1)]) hx hb dX9_rank_38 hl (k := 3) rfl rfl (by decide) rfl (fun ls hl => ?_)
        refine lv_goto (tgt := 4) hx hb dX9_rank_41 (by decide) ?_
        exact ih4 x1 (y0 + y1) (x3 + 1) hf _ _ hP hS _ (lv_sub hl [2, 3, 1, 0] rfl)
      intro x1 x2 x3 hf H locs hP hS ls hl
      have hf : fX9_rank_B4 N Mh Mn Mm Mt (fX9_rank_H4 N Mh Mn Mm Mt n4) x1 x2 x3 = some r0 := hf
      unfold fX9_rank_B4 at hf
      refine lv_iload_n hx hb dX9_rank_4 rfl (lv_at hl 3 rfl) ?_
      refine lv_aload_n hx hb dX9_rank_5 rfl (lv_at hl 0 rfl) ?_
      refine va_get (D := D) (ci := 7) (v := .int Mn) (C := RX9) (T := TX9) (N := 11) hx hb hts huX9 hown hE.1 hP 0 rfl rfl 1 (by decide) hk39 (fun _ h9 => h9) rfl dX9_rank_6 ?_
      refine lv_icmp_ge (tgt := 44) hx hb dX9_rank_9 (by decide) (fun c_1 => ?_) (fun c_1 => ?_)
      · have hf := (if_pos c_1).symm.trans hf
        exact J44 x2 hf _ _ hP hS _ (lv_sub hl [2] rfl)
      · have hf := (if_neg c_1).symm.trans hf
        refine lv_iload_n hx hb dX9_rank_12 rfl (lv_at hl 2 rfl) ?_
        refine lv_aload_n hx hb dX9_rank_13 rfl (lv_at hl 0 rfl) ?_
        refine lv_iload_n hx hb dX9_rank_14 rfl (lv_at hl 3 rfl) ?_
        refine lv_aload_n hx hb dX9_rank_15 rfl (lv_at hl 0 rfl) ?_
        refine va_get (D := D) (ci := 7) (v := .int Mn) (C := RX9) (T := TX9) (N := 11) hx hb hts huX9 hown hE.1 hP 0 rfl rfl 1 (by decide) hk39 (fun _ h9 => h9) rfl dX9_rank_16 ?_
        refine lv_iload_n hx hb dX9_rank_19 rfl (lv_at hl 1 rfl) ?_
        refine lv_aload_n hx hb dX9_rank_20 rfl (lv_at hl 0 rfl) ?_
        refine va_get (D := D) (ci := 7) (v := .int Mn) (C := RX9) (T := TX9) (N := 11) hx hb hts huX9 hown hE.1 hP 0 rfl rfl 1 (by decide) hk39 (fun _ h9 => h9) rfl dX9_rank_21 ?_
        refine lv_iconst (v := (0 : Int32)) hx hb dX9_rank_24 (by decide) ?_
        obtain ⟨r25, hc, hf⟩ := bn_some hf
        try dsimp only at hf
        refine g_call0 (ws' := (w_14_15 q cI cJ cD Mh Mn Mm Mt)) (st1 := [.int r25, .int x2]) hq [14, 15] [14, 15] [.inl 0, .inl 1] (va_runV (As := [.int x3, .int Mn, .int x1, .int Mn, .int (0 : Int32)]) (rest := [.int x2]) ⟨hx, hb, hml, hown, hts⟩ (kX9_order l D cI cJ cD q hq N Mh Mn Mm Mt x3 Mn x1 Mn (0 : Int32) r25 hc) (cwV 5 hts gX9_rank_X9_order rfl rfl rfl (by decide +kernel) ⟨(Nat.le_of_ble_eq_true rfl), (Nat.le_of_ble_eq_true rfl)⟩) ⟨gP_blind, va_recv hE.1 hP (ci := 7) (q0 := 0) rfl rfl, fun U hU hW => ⟨rfl, by rw [hU]; exact hP.sub (ws' := (w_14_15 q cI cJ cD Mh Mn Mm Mt)) [0, 1] rfl, gEv.warm hW hE⟩⟩ rfl rfl hl.1 rfl (lv_room (Nat.le_of_ble_eq_true rfl)) dX9_rank_25 ⟨Nat.zero_le _, Nat.zero_le _⟩) hP hS (gSub rfl) rfl rfl rfl rfl rfl (fun H locs hP hS => ?_)
        refine lv_if_ge (tgt := 35) hx hb dX9_rank_28 (by decide) (fun c_2 => ?_) (fun c_2 => ?_)
        · have hf := (if_pos c_2).symm.trans hf
          refine lv_iconst (v := (0 : Int32)) hx hb dX9_rank_35 (by decide) ?_
          exact J36 x1 x3 x2 (0 : Int32) hf _ _ hP hS _ (lv_sub hl [0, 1, 3] rfl)
        · have hf := (if_neg c_2).symm.trans hf
          refine lv_iconst (v := (1 : Int32)) hx hb dX9_rank_31 (by decide) ?_
          refine lv_goto (tgt := 36) hx hb dX9_rank_32 (by decide) ?_
          exact J36 x1 x3 x2 (1 : Int32) hf _ _ hP hS _ (lv_sub hl [0, 1, 3] rfl)
  unfold fX9_rank at hf
  refine lv_iconst (v := (0 : Int32)) hx hb dX9_rank_0 (by decide) ?_
  refine lv_istore_n (lv' := [(2, .int (0 : Int32)), (0, .ref (q 14)), (1, .int p1)]) hx hb dX9_rank_1 rfl hl (by decide) rfl (fun ls hl => ?_)
  refine lv_iconst (v := (0 : Int32)) hx hb dX9_rank_2 (by decide) ?_
  refine lv_istore_n (lv' := [(3, .int (0 : Int32)), (2, .int (0 : Int32)), (0, .ref (q 14)), (1, .int p1)]) hx hb dX9_rank_3 rfl hl (by decide) rfl (fun ls hl => ?_)
  exact K4 N p1 (0 : Int32) (0 : Int32) hf _ _ hP hS _ (lv_sub hl [2, 3, 1, 0] rfl)
set_option maxHeartbeats 4000000 in
set_option maxRecDepth 100000 in
theorem kX9_suffixAt (l : Launch) (D : va_G) (cI cJ cD : ClassId) (q : Nat → Nat) (hq : gInj q) (N : Nat) (Mh : Int32) (Mn : Int32) (Mm : Int32) (Mt : (Nat → Int32)) (p1 : Int32) (r0 : Int32) (Mh9 : Int32) (hf : fX9_suffixAt N Mh Mn Mm Mt p1 = some (r0, Mh9)) : Met l yX9_suffixAt wsX9_suffixAt rX9_suffixAt (gP D cI cJ cD [.ref (q 14), .int p1] (w_14_15 q cI cJ cD Mh Mn Mm Mt)) (gQ D (some (.int r0)) (w_14_15 q cI cJ cD Mh9 Mn Mm Mt) (gA q [14, 15])) 0 0 (gA q [14, 15]) := by
  refine Met.ofW (cc := cX9_suffixAt) (maxL := 3) (ret := (some .int)) (by decide +kernel) rfl ?_
  intro p e s m args below meth c s₁ B hml hv
  obtain ⟨rfl, hP, hE⟩ := hv
  have hx := B.exec
  have hb := B.bytes
  have hr := B.returns
  have hts := atoms_spec (ws := wsX9_suffixAt) B.pre
  have hown : s.vm.findClass RX9 = some m.cls := findClass_of_methodNamed B.named
  have hlocks := B.notSynchronized
  have hS : va_S (gA q [14, 15]) s.heap s.heap [] := va_S.rf
  have hl := lv_entry ([.ref (q 14), .int p1]) (n := 3) (Nat.le_of_ble_eq_true rfl)
  rw [lg_entry_eq]
  generalize (lg_sl ([.ref (q 14), .int p1]) ++ List.replicate (3 - (lg_sl ([.ref (q 14), .int p1])).length) Slot.unset).toArray = ls at hl ⊢
  have hl : lv_has ls 3 [(0, .ref (q 14)), (1, .int p1)] := hl
  have J39 : ∀ (Mh : Int32) (x2 : Int32), fX9_suffixAt_J39 N Mn Mm Mt Mh x2 = some (r0, Mh9) → ∀ (H : Heap) (locs : List Loc), va_P D vwCl (w_14_15 q cI cJ cD Mh Mn Mm Mt) H → va_S (gA q [14, 15]) s.heap H locs → ∀ ls : Array Slot, lv_has ls 3 [(2, .int x2)] → W p l e (headSpec wsX9_suffixAt rX9_suffixAt).room s m ([.ref (q 14), .int p1] : List Value).toArray below meth c H locs 0 0 (MQ below (gQ D (some (.int r0)) (w_14_15 q cI cJ cD Mh9 Mn Mm Mt) (gA q [14, 15])) ([.ref (q 14), .int p1] : List Value).toArray s 0 0 (gA q [14, 15])) (F0 m 39 ls []) := by
    intro Mh x2 hf H locs hP hS ls hl
    unfold fX9_suffixAt_J39 at hf
    refine lv_iload_n hx hb dX9_suffixAt_39 rfl (lv_at hl 0 rfl) ?_
    cases hf
    exact W.iret hx hb hr (fun t ht hW => ⟨⟨rfl, by rw [ht]; exact hP⟩, hS.F ht⟩) hS.2.2 dX9_suffixAt_40
  have K24 : ∀ (n24 : Nat) (Mh : Int32) (x1 : Int32) (x2 : Int32), fX9_suffixAt_H24 N Mn Mm Mt n24 Mh x1 x2 = some (r0, Mh9) → ∀ (H : Heap) (locs : List Loc), va_P D vwCl (w_14_15 q cI cJ cD Mh Mn Mm Mt) H → va_S (gA q [14, 15]) s.heap H locs → ∀ ls : Array Slot, lv_has ls 3 [(0, .ref (q 14)), (1, .int x1), (2, .int x2)] → W p l e (headSpec wsX9_suffixAt rX9_suffixAt).room s m ([.ref (q 14), .int p1] : List Value).toArray below meth c H locs 0 0 (MQ below (gQ D (some (.int r0)) (w_14_15 q cI cJ cD Mh9 Mn Mm Mt) (gA q [14, 15])) ([.ref (q 14), .int p1] : List Value).toArray s 0 0 (gA q [14, 15])) (F0 m 24 ls []) := by
    intro n24
    induction n24 with
    | zero =>
      intro Mh x1 x2 hf
      exact nomatch (show (none : Option (Int32 × Int32)) = some (r0, Mh9) from hf)
    | succ n24 ih24 =>
      intro Mh x1 x2 hf H locs hP hS ls hl
      have hf : fX9_suffixAt_B24 N Mn Mm Mt (fX9_suffixAt_H24 N Mn Mm Mt n24) Mh x1 x2 = some (r0, Mh9) := hf
      unfold fX9_suffixAt_B24 at hf
      refine lv_aload_n hx hb dX9_suffixAt_24 rfl (lv_at hl 0 rfl) ?_
      refine lv_iload_n hx hb dX9_suffixAt_25 rfl (lv_at hl 2 rfl) ?_
      obtain ⟨r26, hc, hf⟩ := bn_some hf
      try dsimp only at hf
      refine g_call0 (ws' := (w_14_15 q cI cJ cD Mh Mn Mm Mt)) (st1 := [.int r26]) hq [14, 15] [14, 15] [.inl 0, .inl 1] (va_runV (As := [.int x2]) (rest := []) ⟨hx, hb, hml, hown, hts⟩ (kX9_rank l D cI cJ cD q hq N Mh Mn Mm Mt x2 r26 hc) (cwV 1 hts gX9_suffixAt_X9_rank rfl rfl rfl (by decide +kernel) ⟨(Nat.le_of_ble_eq_true rfl), (Nat.le_of_ble_eq_true rfl)⟩) ⟨gP_blind, va_recv hE.1 hP (ci := 7) (q0 := 0) rfl rfl, fun U hU hW => ⟨rfl, by rw [hU]; exact hP.sub (ws' := (w_14_15 q cI cJ cD Mh Mn Mm Mt)) [0, 1] rfl, gEv.warm hW hE⟩⟩ rfl rfl hl.1 rfl (lv_room (Nat.le_of_ble_eq_true rfl)) dX9_suffixAt_26 ⟨Nat.zero_le _, Nat.zero_le _⟩) hP hS (gSub rfl) rfl rfl rfl rfl rfl (fun H locs hP hS => ?_)
      refine lv_iload_n hx hb dX9_suffixAt_29 rfl (lv_at hl 1 rfl) ?_
      refine lv_icmp_eq (tgt := 39) hx hb dX9_suffixAt_30 (by decide) (fun c_1 => ?_) (fun c_1 => ?_)
      · have hf := (if_pos c_1).symm.trans hf
        exact J39 Mh x2 hf _ _ hP hS _ (lv_sub hl [2] rfl)
      · have hf := (if_neg c_1).symm.trans hf
        refine lv_iinc (v := (x2 + 1)) (lv' := [(2, .int (x2 + 1)), (0, .ref (q 14)), (1, .int x1)]) hx hb dX9_suffixAt_33 hl (k := 2) rfl rfl (by decide) rfl (fun ls hl => ?_)
        refine lv_goto (tgt := 24) hx hb dX9_suffixAt_36 (by decide) ?_
        exact ih24 Mh x1 (x2 + 1) hf _ _ hP hS _ (lv_sub hl [1, 2, 0] rfl)
  have J14 : ∀ (Mh : Int32) (x1 : Int32) (y1 : Int32), fX9_suffixAt_J14 N Mn Mm Mt Mh x1 y1 = some (r0, Mh9) → ∀ (H : Heap) (locs : List Loc), va_P D vwCl (w_14_15 q cI cJ cD Mh Mn Mm Mt) H → va_S (gA q [14, 15]) s.heap H locs → ∀ ls : Array Slot, lv_has ls 3 [(0, .ref (q 14)), (1, .int x1)] → W p l e (headSpec wsX9_suffixAt rX9_suffixAt).room s m ([.ref (q 14), .int p1] : List Value).toArray below meth c H locs 0 0 (MQ below (gQ D (some (.int r0)) (w_14_15 q cI cJ cD Mh9 Mn Mm Mt) (gA q [14, 15])) ([.ref (q 14), .int p1] : List Value).toArray s 0 0 (gA q [14, 15])) (F0 m 14 ls [.int y1, .ref (q 14)]) := by
    intro Mh x1 y1 hf H locs hP hS ls hl
    unfold fX9_suffixAt_J14 at hf
    obtain ⟨⟨r14, Mh14⟩, hc, hf⟩ := bn_some hf
    try dsimp only at hf
    refine g_call0 (ws' := (w_14_15 q cI cJ cD Mh14 Mn Mm Mt)) (st1 := [.int r14]) hq [14, 15] [14] [.inl 0, .inr 1] (va_runV (As := [.int y1]) (rest := []) ⟨hx, hb, hml, hown, hts⟩ (kX9_goesWell l D cI cJ cD q hq N Mh Mn Mm y1 r14 Mh14 hc) (cwV 1 hts gX9_suffixAt_X9_goesWell rfl rfl rfl (by decide +kernel) ⟨(Nat.le_of_ble_eq_true rfl), (Nat.le_of_ble_eq_true rfl)⟩) ⟨gP_blind, va_recv hE.1 hP (ci := 7) (q0 := 0) rfl rfl, fun U hU hW => ⟨rfl, by rw [hU]; exact hP.sub (ws' := (w_14 q cI cJ cD Mh Mn Mm)) [0] rfl, gEv.warm hW hE⟩⟩ rfl rfl hl.1 rfl (lv_room (Nat.le_of_ble_eq_true rfl)) dX9_suffixAt_14 ⟨Nat.zero_le _, Nat.zero_le _⟩) hP hS (gSub rfl) rfl rfl rfl rfl rfl (fun H locs hP hS => ?_)
    refine lv_if_ne (tgt := 22) hx hb dX9_suffixAt_17 (by decide) (fun c_2 => ?_) (fun c_2 => ?_)
    · have hf := (if_neg c_2).symm.trans hf
      refine lv_iconst (v := (0 : Int32)) hx hb dX9_suffixAt_22 (by decide) ?_
      refine lv_istore_n (lv' := [(2, .int (0 : Int32)), (0, .ref (q 14)), (1, .int x1)]) hx hb dX9_suffixAt_23 rfl hl (by decide) rfl (fun ls hl => ?_)
      exact K24 N Mh14 x1 (0 : Int32) hf _ _ hP hS _ (lv_sub hl [1, 2, 0] rfl)
    · have hf := (if_pos c_2).symm.trans hf
      refine lv_iconst (v := (0 : Int32)) hx hb dX9_suffixAt_20 (by decide) ?_
      cases hf
      exact W.iret hx hb hr (fun t ht hW => ⟨⟨rfl, by rw [ht]; exact hP⟩, hS.F ht⟩) hS.2.2 dX9_suffixAt_21
  unfold fX9_suffixAt at hf
  refine lv_aload_n hx hb dX9_suffixAt_0 rfl (lv_at hl 0 rfl) ?_
  refine lv_aload_n hx hb dX9_suffixAt_1 rfl (lv_at hl 0 rfl) ?_
  refine lv_iload_n hx hb dX9_suffixAt_2 rfl (lv_at hl 1 rfl) ?_
  obtain ⟨r3, hc, hf⟩ := bn_some hf
  try dsimp only at hf
  refine g_call0 (ws' := (w_14_15 q cI cJ cD Mh Mn Mm Mt)) (st1 := [.int r3, .ref (q 14)]) hq [14, 15] [14] [.inl 0, .inr 1] (va_runV (As := [.int p1]) (rest := [.ref (q 14)]) ⟨hx, hb, hml, hown, hts⟩ (kX9_isPlace l D cI cJ cD q hq N Mh Mn Mm p1 r3 hc) (cwV 1 hts gX9_suffixAt_X9_isPlace rfl rfl rfl (by decide +kernel) ⟨(Nat.le_of_ble_eq_true rfl), (Nat.le_of_ble_eq_true rfl)⟩) ⟨gP_blind, va_recv hE.1 hP (ci := 7) (q0 := 0) rfl rfl, fun U hU hW => ⟨rfl, by rw [hU]; exact hP.sub (ws' := (w_14 q cI cJ cD Mh Mn Mm)) [0] rfl, gEv.warm hW hE⟩⟩ rfl rfl hl.1 rfl (lv_room (Nat.le_of_ble_eq_true rfl)) dX9_suffixAt_3 ⟨Nat.zero_le _, Nat.zero_le _⟩) hP hS (gSub rfl) rfl rfl rfl rfl rfl (fun H locs hP hS => ?_)
  refine lv_if_eq (tgt := 13) hx hb dX9_suffixAt_6 (by decide) (fun c_3 => ?_) (fun c_3 => ?_)
  · have hf := (if_pos c_3).symm.trans hf
    refine lv_iconst (v := (1 : Int32)) hx hb dX9_suffixAt_13 (by decide) ?_
    exact J14 Mh p1 (1 : Int32) hf _ _ hP hS _ (lv_sub hl [0, 1] rfl)
  · have hf := (if_neg c_3).symm.trans hf
    refine lv_iconst (v := (0 : Int32)) hx hb dX9_suffixAt_9 (by decide) ?_
    refine lv_goto (tgt := 14) hx hb dX9_suffixAt_10 (by decide) ?_
    exact J14 Mh p1 (0 : Int32) hf _ _ hP hS _ (lv_sub hl [0, 1] rfl)
set_option maxHeartbeats 4000000 in
set_option maxRecDepth 100000 in
theorem kX9_rankOf (l : Launch) (D : va_G) (cI cJ cD : ClassId) (q : Nat → Nat) (hq : gInj q) (N : Nat) (Mh : Int32) (Mn : Int32) (Mm : Int32) (Mt : (Nat → Int32)) (p1 : Int32) (r0 : Int32) (Mh9 : Int32) (hf : fX9_rankOf N Mh Mn Mm Mt p1 = some (r0, Mh9)) : Met l yX9_rankOf wsX9_rankOf rX9_rankOf (gP D cI cJ cD [.ref (q 14), .int p1] (w_14_15 q cI cJ cD Mh Mn Mm Mt)) (gQ D (some (.int r0)) (w_14_15 q cI cJ cD Mh9 Mn Mm Mt) (gA q [14, 15])) 0 0 (gA q [14, 15]) := by
  refine Met.ofW (cc := cX9_rankOf) (maxL := 2) (ret := (some .int)) (by decide +kernel) rfl ?_
  intro p e s m args below meth c s₁ B hml hv
  obtain ⟨rfl, hP, hE⟩ := hv
  have hx := B.exec
  have hb := B.bytes
  have hr := B.returns
  have hts := atoms_spec (ws := wsX9_rankOf) B.pre
  have hown : s.vm.findClass RX9 = some m.cls := findClass_of_methodNamed B.named
  have hlocks := B.notSynchronized
  have hS : va_S (gA q [14, 15]) s.heap s.heap [] := va_S.rf
  have hl := lv_entry ([.ref (q 14), .int p1]) (n := 2) (Nat.le_of_ble_eq_true rfl)
  rw [lg_entry_eq]
  generalize (lg_sl ([.ref (q 14), .int p1]) ++ List.replicate (2 - (lg_sl ([.ref (q 14), .int p1])).length) Slot.unset).toArray = ls at hl ⊢
  have hl : lv_has ls 2 [(0, .ref (q 14)), (1, .int p1)] := hl
  have J29 : ∀ (Mh : Int32) (y0 : Int32), fX9_rankOf_J29 N Mn Mm Mt Mh y0 = some (r0, Mh9) → ∀ (H : Heap) (locs : List Loc), va_P D vwCl (w_14_15 q cI cJ cD Mh Mn Mm Mt) H → va_S (gA q [14, 15]) s.heap H locs → ∀ ls : Array Slot, lv_has ls 2 [] → W p l e (headSpec wsX9_rankOf rX9_rankOf).room s m ([.ref (q 14), .int p1] : List Value).toArray below meth c H locs 0 0 (MQ below (gQ D (some (.int r0)) (w_14_15 q cI cJ cD Mh9 Mn Mm Mt) (gA q [14, 15])) ([.ref (q 14), .int p1] : List Value).toArray s 0 0 (gA q [14, 15])) (F0 m 29 ls [.int y0]) := by
    intro Mh y0 hf H locs hP hS ls hl
    unfold fX9_rankOf_J29 at hf
    cases hf
    exact W.iret hx hb hr (fun t ht hW => ⟨⟨rfl, by rw [ht]; exact hP⟩, hS.F ht⟩) hS.2.2 dX9_rankOf_29
  have J14 : ∀ (Mh : Int32) (x1 : Int32) (y1 : Int32), fX9_rankOf_J14 N Mn Mm Mt Mh x1 y1 = some (r0, Mh9) → ∀ (H : Heap) (locs : List Loc), va_P D vwCl (w_14_15 q cI cJ cD Mh Mn Mm Mt) H → va_S (gA q [14, 15]) s.heap H locs → ∀ ls : Array Slot, lv_has ls 2 [(0, .ref (q 14)), (1, .int x1)] → W p l e (headSpec wsX9_rankOf rX9_rankOf).room s m ([.ref (q 14), .int p1] : List Value).toArray below meth c H locs 0 0 (MQ below (gQ D (some (.int r0)) (w_14_15 q cI cJ cD Mh9 Mn Mm Mt) (gA q [14, 15])) ([.ref (q 14), .int p1] : List Value).toArray s 0 0 (gA q [14, 15])) (F0 m 14 ls [.int y1, .ref (q 14)]) := by
    intro Mh x1 y1 hf H locs hP hS ls hl
    unfold fX9_rankOf_J14 at hf
    obtain ⟨⟨r14, Mh14⟩, hc, hf⟩ := bn_some hf
    try dsimp only at hf
    refine g_call0 (ws' := (w_14_15 q cI cJ cD Mh14 Mn Mm Mt)) (st1 := [.int r14]) hq [14, 15] [14] [.inl 0, .inr 1] (va_runV (As := [.int y1]) (rest := []) ⟨hx, hb, hml, hown, hts⟩ (kX9_goesWell l D cI cJ cD q hq N Mh Mn Mm y1 r14 Mh14 hc) (cwV 1 hts gX9_rankOf_X9_goesWell rfl rfl rfl (by decide +kernel) ⟨(Nat.le_of_ble_eq_true rfl), (Nat.le_of_ble_eq_true rfl)⟩) ⟨gP_blind, va_recv hE.1 hP (ci := 7) (q0 := 0) rfl rfl, fun U hU hW => ⟨rfl, by rw [hU]; exact hP.sub (ws' := (w_14 q cI cJ cD Mh Mn Mm)) [0] rfl, gEv.warm hW hE⟩⟩ rfl rfl hl.1 rfl (lv_room (Nat.le_of_ble_eq_true rfl)) dX9_rankOf_14 ⟨Nat.zero_le _, Nat.zero_le _⟩) hP hS (gSub rfl) rfl rfl rfl rfl rfl (fun H locs hP hS => ?_)
    refine lv_if_eq (tgt := 28) hx hb dX9_rankOf_17 (by decide) (fun c_1 => ?_) (fun c_1 => ?_)
    · have hf := (if_pos c_1).symm.trans hf
      refine lv_iconst (v := (0 : Int32)) hx hb dX9_rankOf_28 (by decide) ?_
      exact J29 Mh14 (0 : Int32) hf _ _ hP hS _ (lv_sub hl [] rfl)
    · have hf := (if_neg c_1).symm.trans hf
      refine lv_aload_n hx hb dX9_rankOf_20 rfl (lv_at hl 0 rfl) ?_
      refine lv_iload_n hx hb dX9_rankOf_21 rfl (lv_at hl 1 rfl) ?_
      obtain ⟨r22, hc, hf⟩ := bn_some hf
      try dsimp only at hf
      refine g_call0 (ws' := (w_14_15 q cI cJ cD Mh14 Mn Mm Mt)) (st1 := [.int r22]) hq [14, 15] [14, 15] [.inl 0, .inl 1] (va_runV (As := [.int x1]) (rest := []) ⟨hx, hb, hml, hown, hts⟩ (kX9_rank l D cI cJ cD q hq N Mh14 Mn Mm Mt x1 r22 hc) (cwV 1 hts gX9_rankOf_X9_rank rfl rfl rfl (by decide +kernel) ⟨(Nat.le_of_ble_eq_true rfl), (Nat.le_of_ble_eq_true rfl)⟩) ⟨gP_blind, va_recv hE.1 hP (ci := 7) (q0 := 0) rfl rfl, fun U hU hW => ⟨rfl, by rw [hU]; exact hP.sub (ws' := (w_14_15 q cI cJ cD Mh14 Mn Mm Mt)) [0, 1] rfl, gEv.warm hW hE⟩⟩ rfl rfl hl.1 rfl (lv_room (Nat.le_of_ble_eq_true rfl)) dX9_rankOf_22 ⟨Nat.zero_le _, Nat.zero_le _⟩) hP hS (gSub rfl) rfl rfl rfl rfl rfl (fun H locs hP hS => ?_)
      refine lv_goto (tgt := 29) hx hb dX9_rankOf_25 (by decide) ?_
      exact J29 Mh14 r22 hf _ _ hP hS _ (lv_sub hl [] rfl)
  unfold fX9_rankOf at hf
  refine lv_aload_n hx hb dX9_rankOf_0 rfl (lv_at hl 0 rfl) ?_
  refine lv_aload_n hx hb dX9_rankOf_1 rfl (lv_at hl 0 rfl) ?_
  refine lv_iload_n hx hb dX9_rankOf_2 rfl (lv_at hl 1 rfl) ?_
  obtain ⟨r3, hc, hf⟩ := bn_some hf
  try dsimp only at hf
  refine g_call0 (ws' := (w_14_15 q cI cJ cD Mh Mn Mm Mt)) (st1 := [.int r3, .ref (q 14)]) hq [14, 15] [14] [.inl 0, .inr 1] (va_runV (As := [.int p1]) (rest := [.ref (q 14)]) ⟨hx, hb, hml, hown, hts⟩ (kX9_isPlace l D cI cJ cD q hq N Mh Mn Mm p1 r3 hc) (cwV 1 hts gX9_rankOf_X9_isPlace rfl rfl rfl (by decide +kernel) ⟨(Nat.le_of_ble_eq_true rfl), (Nat.le_of_ble_eq_true rfl)⟩) ⟨gP_blind, va_recv hE.1 hP (ci := 7) (q0 := 0) rfl rfl, fun U hU hW => ⟨rfl, by rw [hU]; exact hP.sub (ws' := (w_14 q cI cJ cD Mh Mn Mm)) [0] rfl, gEv.warm hW hE⟩⟩ rfl rfl hl.1 rfl (lv_room (Nat.le_of_ble_eq_true rfl)) dX9_rankOf_3 ⟨Nat.zero_le _, Nat.zero_le _⟩) hP hS (gSub rfl) rfl rfl rfl rfl rfl (fun H locs hP hS => ?_)
  refine lv_if_eq (tgt := 13) hx hb dX9_rankOf_6 (by decide) (fun c_2 => ?_) (fun c_2 => ?_)
  · have hf := (if_pos c_2).symm.trans hf
    refine lv_iconst (v := (1 : Int32)) hx hb dX9_rankOf_13 (by decide) ?_
    exact J14 Mh p1 (1 : Int32) hf _ _ hP hS _ (lv_sub hl [0, 1] rfl)
  · have hf := (if_neg c_2).symm.trans hf
    refine lv_iconst (v := (0 : Int32)) hx hb dX9_rankOf_9 (by decide) ?_
    refine lv_goto (tgt := 14) hx hb dX9_rankOf_10 (by decide) ?_
    exact J14 Mh p1 (0 : Int32) hf _ _ hP hS _ (lv_sub hl [0, 1] rfl)
set_option maxHeartbeats 4000000 in
set_option maxRecDepth 100000 in
theorem kX9_layLyndon (l : Launch) (D : va_G) (cI cJ cD : ClassId) (q : Nat → Nat) (hq : gInj q) (N : Nat) (Mh : Int32) (Mn : Int32) (Mm : Int32) (My : (Nat → Int64)) (p1 : Int32) (p2 : Int32) (My9 : (Nat → Int64)) (hf : fX9_layLyndon N Mh Mn Mm My p1 p2 = some My9) : Met l yX9_layLyndon wsX9_layLyndon rX9_layLyndon (gP D cI cJ cD [.ref (q 14), .int p1, .int p2] (w_14_22 q cI cJ cD Mh Mn Mm My)) (gQ D none (w_14_22 q cI cJ cD Mh Mn Mm My9) (gA q [14, 22])) 0 0 (gA q [14, 22]) := by
  refine Met.ofW (cc := cX9_layLyndon) (maxL := 9) (ret := none) (by decide +kernel) rfl ?_
  intro p e s m args below meth c s₁ B hml hv
  obtain ⟨rfl, hP, hE⟩ := hv
  have hx := B.exec
  have hb := B.bytes
  have hr := B.returns
  have hts := atoms_spec (ws := wsX9_layLyndon) B.pre
  have hown : s.vm.findClass RX9 = some m.cls := findClass_of_methodNamed B.named
  have hlocks := B.notSynchronized
  have hS : va_S (gA q [14, 22]) s.heap s.heap [] := va_S.rf
  have hl := lv_entry ([.ref (q 14), .int p1, .int p2]) (n := 9) (Nat.le_of_ble_eq_true rfl)
  rw [lg_entry_eq]
  generalize (lg_sl ([.ref (q 14), .int p1, .int p2]) ++ List.replicate (9 - (lg_sl ([.ref (q 14), .int p1, .int p2])).length) Slot.unset).toArray = ls at hl ⊢
  have hl : lv_has ls 9 [(0, .ref (q 14)), (1, .int p1), (2, .int p2)] := hl
  have hDm : ∀ (z0 : Int32) (z1 : Int32) (z2 : Int32) (z3 : (Nat → Int64)), va_D (gA q [14, 22]) (w_14_22 q cI cJ cD z0 z1 z2 z3) := fun _ _ _ _ => gD_of hq [14, 22] rfl rfl rfl (fun k h => ⟨k, h, rfl⟩)
  have hk31 := hts (.fieldLink RX9 31 "LyndonTextModel" "lyndon" "[J") (by decide +kernel)
  have huX9 : ∀ w ∈ u_ws RX9 TX9 11, w ∈ wsX9_layLyndon := by decide +kernel
  have J84 : ∀ (My : (Nat → Int64)), fX9_layLyndon_J84 N Mh Mn Mm My = some My9 → ∀ (H : Heap) (locs : List Loc), va_P D vwCl (w_14_22 q cI cJ cD Mh Mn Mm My) H → va_S (gA q [14, 22]) s.heap H locs → ∀ ls : Array Slot, lv_has ls 9 [] → W p l e (headSpec wsX9_layLyndon rX9_layLyndon).room s m ([.ref (q 14), .int p1, .int p2] : List Value).toArray below meth c H locs 0 0 (MQ below (gQ D none (w_14_22 q cI cJ cD Mh Mn Mm My9) (gA q [14, 22])) ([.ref (q 14), .int p1, .int p2] : List Value).toArray s 0 0 (gA q [14, 22])) (F0 m 84 ls []) := by
    intro My hf H locs hP hS ls hl
    unfold fX9_layLyndon_J84 at hf
    cases hf
    exact W.vret hx hb hr (fun t ht hW => ⟨⟨rfl, by rw [ht]; exact hP⟩, hS.F ht⟩) hS.2.2 dX9_layLyndon_84
  have K5 : ∀ (n5 : Nat) (My : (Nat → Int64)) (x1 : Int32) (x2 : Int32) (x3 : Int64) (x5 : Int32), fX9_layLyndon_H5 N Mh Mn Mm n5 My x1 x2 x3 x5 = some My9 → ∀ (H : Heap) (locs : List Loc), va_P D vwCl (w_14_22 q cI cJ cD Mh Mn Mm My) H → va_S (gA q [14, 22]) s.heap H locs → ∀ ls : Array Slot, lv_has ls 9 [(0, .ref (q 14)), (1, .int x1), (2, .int x2), (3, .long x3), (5, .int x5)] → W p l e (headSpec wsX9_layLyndon rX9_layLyndon).room s m ([.ref (q 14), .int p1, .int p2] : List Value).toArray below meth c H locs 0 0 (MQ below (gQ D none (w_14_22 q cI cJ cD Mh Mn Mm My9) (gA q [14, 22])) ([.ref (q 14), .int p1, .int p2] : List Value).toArray s 0 0 (gA q [14, 22])) (F0 m 5 ls []) := by
    intro n5
    induction n5 with
    | zero =>
      intro My x1 x2 x3 x5 hf
      exact nomatch (show (none : Option (Nat → Int64)) = some My9 from hf)
    | succ n5 ih5 =>
      have J63 : ∀ (My : (Nat → Int64)) (x1 : Int32) (x2 : Int32) (x3 : Int64) (x5 : Int32) (x6 : Int64), fX9_layLyndon_J63 N Mh Mn Mm (fX9_layLyndon_H5 N Mh Mn Mm n5) My x1 x2 x3 x5 x6 = some My9 → ∀ (H : Heap) (locs : List Loc), va_P D vwCl (w_14_22 q cI cJ cD Mh Mn Mm My) H → va_S (gA q [14, 22]) s.heap H locs → ∀ ls : Array Slot, lv_has ls 9 [(0, .ref (q 14)), (1, .int x1), (2, .int x2), (3, .long x3), (5, .int x5), (6, .long x6)] → W p l e (headSpec wsX9_layLyndon rX9_layLyndon).room s m ([.ref (q 14), .int p1, .int p2] : List Value).toArray below meth c H locs 0 0 (MQ below (gQ D none (w_14_22 q cI cJ cD Mh Mn Mm My9) (gA q [14, 22])) ([.ref (q 14), .int p1, .int p2] : List Value).toArray s 0 0 (gA q [14, 22])) (F0 m 63 ls []) := by
        intro My x1 x2 x3 x5 x6 hf H locs hP hS ls hl
        unfold fX9_layLyndon_J63 at hf
        refine lv_aload_n hx hb dX9_layLyndon_63 rfl (lv_at hl 0 rfl) ?_
        refine va_get (D := D) (ci := 7) (v := .ref (q 22)) (C := RX9) (T := TX9) (N := 11) hx hb hts huX9 hown hE.1 hP 0 rfl rfl 10 (by decide) hk31 (fun _ h9 => h9) rfl dX9_layLyndon_64 ?_
        refine lv_iload hx hb dX9_layLyndon_67 (lv_at hl 4 rfl) ?_
        refine lv_lload_n hx hb dX9_layLyndon_69 rfl (lv_at hl 3 rfl) ?_
        refine lv_lload hx hb dX9_layLyndon_70 (lv_at hl 5 rfl) ?_
        refine lv_lsub hx hb dX9_layLyndon_72 ?_
        refine lv_iload hx hb dX9_layLyndon_73 (lv_at hl 4 rfl) ?_
        refine lv_i2l (v := (x5).toInt64) hx hb dX9_layLyndon_75 rfl ?_
        obtain ⟨g_1, hf⟩ := gd_some hf
        refine lv_ldiv hx hb dX9_layLyndon_76 (nzL_ne g_1) ?_
        obtain ⟨g_2, hf⟩ := gd_some hf
        refine va_last hx hb hE.1 hP (hDm Mh Mn Mm My) hS 1 1 rfl rfl (inb_in g_2) dX9_layLyndon_77 (fun H locs hP _ hS => ?_)
        have hP : va_P D vwCl (w_14_22 q cI cJ cD Mh Mn Mm (vp_updL My (x5).toNatClampNeg ((x3 - x6) / (x5).toInt64))) H := hP
        refine lv_iinc (v := (x5 + 1)) (lv' := [(5, .int (x5 + 1)), (0, .ref (q 14)), (1, .int x1), (2, .int x2), (3, .long x3), (6, .long x6)]) hx hb dX9_layLyndon_78 hl (k := 4) rfl rfl (by decide) rfl (fun ls hl => ?_)
        refine lv_goto (tgt := 5) hx hb dX9_layLyndon_81 (by decide) ?_
        exact ih5 (vp_updL My (x5).toNatClampNeg ((x3 - x6) / (x5).toInt64)) x1 x2 x3 (x5 + 1) hf _ _ hP hS _ (lv_sub hl [1, 2, 3, 4, 0] rfl)
      have K22 : ∀ (n22 : Nat) (My : (Nat → Int64)) (x1 : Int32) (x2 : Int32) (x3 : Int64) (x5 : Int32) (x6 : Int64) (x8 : Int32), fX9_layLyndon_H22 N Mh Mn Mm (fX9_layLyndon_H5 N Mh Mn Mm n5) n22 My x1 x2 x3 x5 x6 x8 = some My9 → ∀ (H : Heap) (locs : List Loc), va_P D vwCl (w_14_22 q cI cJ cD Mh Mn Mm My) H → va_S (gA q [14, 22]) s.heap H locs → ∀ ls : Array Slot, lv_has ls 9 [(0, .ref (q 14)), (1, .int x1), (2, .int x2), (3, .long x3), (5, .int x5), (6, .long x6), (8, .int x8)] → W p l e (headSpec wsX9_layLyndon rX9_layLyndon).room s m ([.ref (q 14), .int p1, .int p2] : List Value).toArray below meth c H locs 0 0 (MQ below (gQ D none (w_14_22 q cI cJ cD Mh Mn Mm My9) (gA q [14, 22])) ([.ref (q 14), .int p1, .int p2] : List Value).toArray s 0 0 (gA q [14, 22])) (F0 m 22 ls []) := by
        intro n22
        induction n22 with
        | zero =>
          intro My x1 x2 x3 x5 x6 x8 hf
          exact nomatch (show (none : Option (Nat → Int64)) = some My9 from hf)
        | succ n22 ih22 =>
          have J54 : ∀ (My : (Nat → Int64)) (x1 : Int32) (x2 : Int32) (x3 : Int64) (x5 : Int32) (x8 : Int32) (y0 : Int64) (y1 : Int64), fX9_layLyndon_J54 N Mh Mn Mm (fX9_layLyndon_H5 N Mh Mn Mm n5) (fX9_layLyndon_H22 N Mh Mn Mm (fX9_layLyndon_H5 N Mh Mn Mm n5) n22) My x1 x2 x3 x5 x8 y0 y1 = some My9 → ∀ (H : Heap) (locs : List Loc), va_P D vwCl (w_14_22 q cI cJ cD Mh Mn Mm My) H → va_S (gA q [14, 22]) s.heap H locs → ∀ ls : Array Slot, lv_has ls 9 [(0, .ref (q 14)), (1, .int x1), (2, .int x2), (3, .long x3), (5, .int x5), (8, .int x8)] → W p l e (headSpec wsX9_layLyndon rX9_layLyndon).room s m ([.ref (q 14), .int p1, .int p2] : List Value).toArray below meth c H locs 0 0 (MQ below (gQ D none (w_14_22 q cI cJ cD Mh Mn Mm My9) (gA q [14, 22])) ([.ref (q 14), .int p1, .int p2] : List Value).toArray s 0 0 (gA q [14, 22])) (F0 m 54 ls [.long y1, .long y0]) := by
            intro My x1 x2 x3 x5 x8 y0 y1 hf H locs hP hS ls hl
            unfold fX9_layLyndon_J54 at hf
            refine lv_ladd hx hb dX9_layLyndon_54 ?_
            refine lv_lstore (lv' := [(6, .long (y0 + y1)), (0, .ref (q 14)), (1, .int x1), (2, .int x2), (3, .long x3), (5, .int x5), (8, .int x8)]) hx hb dX9_layLyndon_55 hl (by decide) rfl (fun ls hl => ?_)
            refine lv_iinc (v := (x8 + 1)) (lv' := [(8, .int (x8 + 1)), (6, .long (y0 + y1)), (0, .ref (q 14)), (1, .int x1), (2, .int x2), (3, .long x3), (5, .int x5)]) hx hb dX9_layLyndon_57 hl (k := 6) rfl rfl (by decide) rfl (fun ls hl => ?_)
            refine lv_goto (tgt := 22) hx hb dX9_layLyndon_60 (by decide) ?_
            exact ih22 My x1 x2 x3 x5 (y0 + y1) (x8 + 1) hf _ _ hP hS _ (lv_sub hl [2, 3, 4, 5, 6, 1, 0] rfl)
          intro My x1 x2 x3 x5 x6 x8 hf H locs hP hS ls hl
          have hf : fX9_layLyndon_B22 N Mh Mn Mm (fX9_layLyndon_H5 N Mh Mn Mm n5) (fX9_layLyndon_H22 N Mh Mn Mm (fX9_layLyndon_H5 N Mh Mn Mm n5) n22) My x1 x2 x3 x5 x6 x8 = some My9 := hf
          unfold fX9_layLyndon_B22 at hf
          refine lv_iload hx hb dX9_layLyndon_22 (lv_at hl 6 rfl) ?_
          refine lv_iload hx hb dX9_layLyndon_24 (lv_at hl 4 rfl) ?_
          refine lv_icmp_ge (tgt := 63) hx hb dX9_layLyndon_26 (by decide) (fun c_3 => ?_) (fun c_3 => ?_)
          · have hf := (if_pos c_3).symm.trans hf
            exact J63 My x1 x2 x3 x5 x6 hf _ _ hP hS _ (lv_sub hl [0, 1, 2, 3, 4, 5] rfl)
          · have hf := (if_neg c_3).symm.trans hf
            refine lv_lload hx hb dX9_layLyndon_29 (lv_at hl 5 rfl) ?_
            refine lv_iload hx hb dX9_layLyndon_31 (lv_at hl 4 rfl) ?_
            refine lv_iload hx hb dX9_layLyndon_33 (lv_at hl 6 rfl) ?_
            obtain ⟨g_4, hf⟩ := gd_some hf
            refine lv_irem hx hb dX9_layLyndon_35 (nz_ne g_4) ?_
            refine lv_if_ne (tgt := 53) hx hb dX9_layLyndon_36 (by decide) (fun c_5 => ?_) (fun c_5 => ?_)
            · have hf := (if_neg c_5).symm.trans hf
              refine lv_lconst (v := (0 : Int64)) hx hb dX9_layLyndon_53 (by decide) ?_
              exact J54 My x1 x2 x3 x5 x8 x6 (0 : Int64) hf _ _ hP hS _ (lv_sub hl [0, 1, 2, 3, 4, 6] rfl)
            · have hf := (if_pos c_5).symm.trans hf
              refine lv_iload hx hb dX9_layLyndon_39 (lv_at hl 6 rfl) ?_
              refine lv_i2l (v := (x8).toInt64) hx hb dX9_layLyndon_41 rfl ?_
              refine lv_aload_n hx hb dX9_layLyndon_42 rfl (lv_at hl 0 rfl) ?_
              refine va_get (D := D) (ci := 7) (v := .ref (q 22)) (C := RX9) (T := TX9) (N := 11) hx hb hts huX9 hown hE.1 hP 0 rfl rfl 10 (by decide) hk31 (fun _ h9 => h9) rfl dX9_layLyndon_43 ?_
              refine lv_iload hx hb dX9_layLyndon_46 (lv_at hl 6 rfl) ?_
              obtain ⟨g_6, hf⟩ := gd_some hf
              refine va_lald hx hb hE.1 hP 1 1 rfl rfl (inb_in g_6) dX9_layLyndon_48 ?_
              refine lv_lmul hx hb dX9_layLyndon_49 ?_
              refine lv_goto (tgt := 54) hx hb dX9_layLyndon_50 (by decide) ?_
              exact J54 My x1 x2 x3 x5 x8 x6 ((x8).toInt64 * (My (x8).toNatClampNeg)) hf _ _ hP hS _ (lv_sub hl [0, 1, 2, 3, 4, 6] rfl)
      intro My x1 x2 x3 x5 hf H locs hP hS ls hl
      have hf : fX9_layLyndon_B5 N Mh Mn Mm (fX9_layLyndon_H5 N Mh Mn Mm n5) My x1 x2 x3 x5 = some My9 := hf
      unfold fX9_layLyndon_B5 at hf
      refine lv_iload hx hb dX9_layLyndon_5 (lv_at hl 4 rfl) ?_
      refine lv_iload_n hx hb dX9_layLyndon_7 rfl (lv_at hl 2 rfl) ?_
      refine lv_icmp_gt (tgt := 84) hx hb dX9_layLyndon_8 (by decide) (fun c_7 => ?_) (fun c_7 => ?_)
      · have hf := (if_pos c_7).symm.trans hf
        exact J84 My hf _ _ hP hS _ (lv_sub hl [] rfl)
      · have hf := (if_neg c_7).symm.trans hf
        refine lv_lload_n hx hb dX9_layLyndon_11 rfl (lv_at hl 3 rfl) ?_
        refine lv_iload_n hx hb dX9_layLyndon_12 rfl (lv_at hl 1 rfl) ?_
        refine lv_i2l (v := (x1).toInt64) hx hb dX9_layLyndon_13 rfl ?_
        refine lv_lmul hx hb dX9_layLyndon_14 ?_
        refine lv_lstore_n (lv' := [(3, .long (x3 * (x1).toInt64)), (0, .ref (q 14)), (1, .int x1), (2, .int x2), (5, .int x5)]) hx hb dX9_layLyndon_15 rfl hl (by decide) rfl (fun ls hl => ?_)
        refine lv_lconst (v := (0 : Int64)) hx hb dX9_layLyndon_16 (by decide) ?_
        refine lv_lstore (lv' := [(6, .long (0 : Int64)), (3, .long (x3 * (x1).toInt64)), (0, .ref (q 14)), (1, .int x1), (2, .int x2), (5, .int x5)]) hx hb dX9_layLyndon_17 hl (by decide) rfl (fun ls hl => ?_)
        refine lv_iconst (v := (1 : Int32)) hx hb dX9_layLyndon_19 (by decide) ?_
        refine lv_istore (lv' := [(8, .int (1 : Int32)), (6, .long (0 : Int64)), (3, .long (x3 * (x1).toInt64)), (0, .ref (q 14)), (1, .int x1), (2, .int x2), (5, .int x5)]) hx hb dX9_layLyndon_20 hl (by decide) rfl (fun ls hl => ?_)
        exact K22 N My x1 x2 (x3 * (x1).toInt64) x5 (0 : Int64) (1 : Int32) hf _ _ hP hS _ (lv_sub hl [3, 4, 5, 2, 6, 1, 0] rfl)
  unfold fX9_layLyndon at hf
  refine lv_lconst (v := (1 : Int64)) hx hb dX9_layLyndon_0 (by decide) ?_
  refine lv_lstore_n (lv' := [(3, .long (1 : Int64)), (0, .ref (q 14)), (1, .int p1), (2, .int p2)]) hx hb dX9_layLyndon_1 rfl hl (by decide) rfl (fun ls hl => ?_)
  refine lv_iconst (v := (1 : Int32)) hx hb dX9_layLyndon_2 (by decide) ?_
  refine lv_istore (lv' := [(5, .int (1 : Int32)), (3, .long (1 : Int64)), (0, .ref (q 14)), (1, .int p1), (2, .int p2)]) hx hb dX9_layLyndon_3 hl (by decide) rfl (fun ls hl => ?_)
  exact K5 N My p1 p2 (1 : Int64) (1 : Int32) hf _ _ hP hS _ (lv_sub hl [2, 3, 4, 1, 0] rfl)
set_option maxHeartbeats 4000000 in
set_option maxRecDepth 100000 in
theorem kX9_necklaces (l : Launch) (D : va_G) (cI cJ cD : ClassId) (q : Nat → Nat) (hq : gInj q) (N : Nat) (Mh : Int32) (Mn : Int32) (Mm : Int32) (My : (Nat → Int64)) (p1 : Int32) (p2 : Int32) (r0 : Int64) (Mh9 : Int32) (My9 : (Nat → Int64)) (hf : fX9_necklaces N Mh Mn Mm My p1 p2 = some (r0, Mh9, My9)) : Met l yX9_necklaces wsX9_necklaces rX9_necklaces (gP D cI cJ cD [.ref (q 14), .int p1, .int p2] (w_14_22 q cI cJ cD Mh Mn Mm My)) (gQ D (some (.long r0)) (w_14_22 q cI cJ cD Mh9 Mn Mm My9) (gA q [14, 22])) 0 0 (gA q [14, 22]) := by
  refine Met.ofW (cc := cX9_necklaces) (maxL := 6) (ret := (some .long)) (by decide +kernel) rfl ?_
  intro p e s m args below meth c s₁ B hml hv
  obtain ⟨rfl, hP, hE⟩ := hv
  have hx := B.exec
  have hb := B.bytes
  have hr := B.returns
  have hts := atoms_spec (ws := wsX9_necklaces) B.pre
  have hown : s.vm.findClass RX9 = some m.cls := findClass_of_methodNamed B.named
  have hlocks := B.notSynchronized
  have hS : va_S (gA q [14, 22]) s.heap s.heap [] := va_S.rf
  have hl := lv_entry ([.ref (q 14), .int p1, .int p2]) (n := 6) (Nat.le_of_ble_eq_true rfl)
  rw [lg_entry_eq]
  generalize (lg_sl ([.ref (q 14), .int p1, .int p2]) ++ List.replicate (6 - (lg_sl ([.ref (q 14), .int p1, .int p2])).length) Slot.unset).toArray = ls at hl ⊢
  have hl : lv_has ls 6 [(0, .ref (q 14)), (1, .int p1), (2, .int p2)] := hl
  have hk31 := hts (.fieldLink RX9 31 "LyndonTextModel" "lyndon" "[J") (by decide +kernel)
  have huX9 : ∀ w ∈ u_ws RX9 TX9 11, w ∈ wsX9_necklaces := by decide +kernel
  have J78 : ∀ (Mh : Int32) (My : (Nat → Int64)) (x3 : Int64), fX9_necklaces_J78 N Mn Mm Mh My x3 = some (r0, Mh9, My9) → ∀ (H : Heap) (locs : List Loc), va_P D vwCl (w_14_22 q cI cJ cD Mh Mn Mm My) H → va_S (gA q [14, 22]) s.heap H locs → ∀ ls : Array Slot, lv_has ls 6 [(3, .long x3)] → W p l e (headSpec wsX9_necklaces rX9_necklaces).room s m ([.ref (q 14), .int p1, .int p2] : List Value).toArray below meth c H locs 0 0 (MQ below (gQ D (some (.long r0)) (w_14_22 q cI cJ cD Mh9 Mn Mm My9) (gA q [14, 22])) ([.ref (q 14), .int p1, .int p2] : List Value).toArray s 0 0 (gA q [14, 22])) (F0 m 78 ls []) := by
    intro Mh My x3 hf H locs hP hS ls hl
    unfold fX9_necklaces_J78 at hf
    refine lv_lload_n hx hb dX9_necklaces_78 rfl (lv_at hl 0 rfl) ?_
    cases hf
    exact W.lret hx hb hr (fun t ht hW => ⟨⟨rfl, by rw [ht]; exact hP⟩, hS.F ht⟩) hS.2.2 dX9_necklaces_79
  have K45 : ∀ (n45 : Nat) (Mh : Int32) (My : (Nat → Int64)) (x2 : Int32) (x3 : Int64) (x5 : Int32), fX9_necklaces_H45 N Mn Mm n45 Mh My x2 x3 x5 = some (r0, Mh9, My9) → ∀ (H : Heap) (locs : List Loc), va_P D vwCl (w_14_22 q cI cJ cD Mh Mn Mm My) H → va_S (gA q [14, 22]) s.heap H locs → ∀ ls : Array Slot, lv_has ls 6 [(0, .ref (q 14)), (2, .int x2), (3, .long x3), (5, .int x5)] → W p l e (headSpec wsX9_necklaces rX9_necklaces).room s m ([.ref (q 14), .int p1, .int p2] : List Value).toArray below meth c H locs 0 0 (MQ below (gQ D (some (.long r0)) (w_14_22 q cI cJ cD Mh9 Mn Mm My9) (gA q [14, 22])) ([.ref (q 14), .int p1, .int p2] : List Value).toArray s 0 0 (gA q [14, 22])) (F0 m 45 ls []) := by
    intro n45
    induction n45 with
    | zero =>
      intro Mh My x2 x3 x5 hf
      exact nomatch (show (none : Option (Int64 × Int32 × (Nat → Int64))) = some (r0, Mh9, My9) from hf)
    | succ n45 ih45 =>
      have J70 : ∀ (Mh : Int32) (My : (Nat → Int64)) (x2 : Int32) (x5 : Int32) (y0 : Int64) (y1 : Int64), fX9_necklaces_J70 N Mn Mm (fX9_necklaces_H45 N Mn Mm n45) Mh My x2 x5 y0 y1 = some (r0, Mh9, My9) → ∀ (H : Heap) (locs : List Loc), va_P D vwCl (w_14_22 q cI cJ cD Mh Mn Mm My) H → va_S (gA q [14, 22]) s.heap H locs → ∀ ls : Array Slot, lv_has ls 6 [(0, .ref (q 14)), (2, .int x2), (5, .int x5)] → W p l e (headSpec wsX9_necklaces rX9_necklaces).room s m ([.ref (q 14), .int p1, .int p2] : List Value).toArray below meth c H locs 0 0 (MQ below (gQ D (some (.long r0)) (w_14_22 q cI cJ cD Mh9 Mn Mm My9) (gA q [14, 22])) ([.ref (q 14), .int p1, .int p2] : List Value).toArray s 0 0 (gA q [14, 22])) (F0 m 70 ls [.long y1, .long y0]) := by
        intro Mh My x2 x5 y0 y1 hf H locs hP hS ls hl
        unfold fX9_necklaces_J70 at hf
        refine lv_ladd hx hb dX9_necklaces_70 ?_
        refine lv_lstore_n (lv' := [(3, .long (y0 + y1)), (0, .ref (q 14)), (2, .int x2), (5, .int x5)]) hx hb dX9_necklaces_71 rfl hl (by decide) rfl (fun ls hl => ?_)
        refine lv_iinc (v := (x5 + 1)) (lv' := [(5, .int (x5 + 1)), (3, .long (y0 + y1)), (0, .ref (q 14)), (2, .int x2)]) hx hb dX9_necklaces_72 hl (k := 3) rfl rfl (by decide) rfl (fun ls hl => ?_)
        refine lv_goto (tgt := 45) hx hb dX9_necklaces_75 (by decide) ?_
        exact ih45 Mh My x2 (y0 + y1) (x5 + 1) hf _ _ hP hS _ (lv_sub hl [2, 3, 1, 0] rfl)
      intro Mh My x2 x3 x5 hf H locs hP hS ls hl
      have hf : fX9_necklaces_B45 N Mn Mm (fX9_necklaces_H45 N Mn Mm n45) Mh My x2 x3 x5 = some (r0, Mh9, My9) := hf
      unfold fX9_necklaces_B45 at hf
      refine lv_iload hx hb dX9_necklaces_45 (lv_at hl 3 rfl) ?_
      refine lv_iload_n hx hb dX9_necklaces_47 rfl (lv_at hl 1 rfl) ?_
      refine lv_icmp_gt (tgt := 78) hx hb dX9_necklaces_48 (by decide) (fun c_1 => ?_) (fun c_1 => ?_)
      · have hf := (if_pos c_1).symm.trans hf
        exact J78 Mh My x3 hf _ _ hP hS _ (lv_sub hl [2] rfl)
      · have hf := (if_neg c_1).symm.trans hf
        refine lv_lload_n hx hb dX9_necklaces_51 rfl (lv_at hl 2 rfl) ?_
        refine lv_iload_n hx hb dX9_necklaces_52 rfl (lv_at hl 1 rfl) ?_
        refine lv_iload hx hb dX9_necklaces_53 (lv_at hl 3 rfl) ?_
        obtain ⟨g_2, hf⟩ := gd_some hf
        refine lv_irem hx hb dX9_necklaces_55 (nz_ne g_2) ?_
        refine lv_if_ne (tgt := 69) hx hb dX9_necklaces_56 (by decide) (fun c_3 => ?_) (fun c_3 => ?_)
        · have hf := (if_neg c_3).symm.trans hf
          refine lv_lconst (v := (0 : Int64)) hx hb dX9_necklaces_69 (by decide) ?_
          exact J70 Mh My x2 x5 x3 (0 : Int64) hf _ _ hP hS _ (lv_sub hl [0, 1, 3] rfl)
        · have hf := (if_pos c_3).symm.trans hf
          refine lv_aload_n hx hb dX9_necklaces_59 rfl (lv_at hl 0 rfl) ?_
          refine va_get (D := D) (ci := 7) (v := .ref (q 22)) (C := RX9) (T := TX9) (N := 11) hx hb hts huX9 hown hE.1 hP 0 rfl rfl 10 (by decide) hk31 (fun _ h9 => h9) rfl dX9_necklaces_60 ?_
          refine lv_iload hx hb dX9_necklaces_63 (lv_at hl 3 rfl) ?_
          obtain ⟨g_4, hf⟩ := gd_some hf
          refine va_lald hx hb hE.1 hP 1 1 rfl rfl (inb_in g_4) dX9_necklaces_65 ?_
          refine lv_goto (tgt := 70) hx hb dX9_necklaces_66 (by decide) ?_
          exact J70 Mh My x2 x5 x3 (My (x5).toNatClampNeg) hf _ _ hP hS _ (lv_sub hl [0, 1, 3] rfl)
  have J26 : ∀ (Mh : Int32) (My : (Nat → Int64)) (x1 : Int32) (x2 : Int32) (y1 : Int32), fX9_necklaces_J26 N Mn Mm Mh My x1 x2 y1 = some (r0, Mh9, My9) → ∀ (H : Heap) (locs : List Loc), va_P D vwCl (w_14_22 q cI cJ cD Mh Mn Mm My) H → va_S (gA q [14, 22]) s.heap H locs → ∀ ls : Array Slot, lv_has ls 6 [(0, .ref (q 14)), (1, .int x1), (2, .int x2)] → W p l e (headSpec wsX9_necklaces rX9_necklaces).room s m ([.ref (q 14), .int p1, .int p2] : List Value).toArray below meth c H locs 0 0 (MQ below (gQ D (some (.long r0)) (w_14_22 q cI cJ cD Mh9 Mn Mm My9) (gA q [14, 22])) ([.ref (q 14), .int p1, .int p2] : List Value).toArray s 0 0 (gA q [14, 22])) (F0 m 26 ls [.int y1, .ref (q 14)]) := by
    intro Mh My x1 x2 y1 hf H locs hP hS ls hl
    unfold fX9_necklaces_J26 at hf
    obtain ⟨⟨r26, Mh26⟩, hc, hf⟩ := bn_some hf
    try dsimp only at hf
    refine g_call0 (ws' := (w_14_22 q cI cJ cD Mh26 Mn Mm My)) (st1 := [.int r26]) hq [14, 22] [14] [.inl 0, .inr 1] (va_runV (As := [.int y1]) (rest := []) ⟨hx, hb, hml, hown, hts⟩ (kX9_goesWell l D cI cJ cD q hq N Mh Mn Mm y1 r26 Mh26 hc) (cwV 1 hts gX9_necklaces_X9_goesWell rfl rfl rfl (by decide +kernel) ⟨(Nat.le_of_ble_eq_true rfl), (Nat.le_of_ble_eq_true rfl)⟩) ⟨gP_blind, va_recv hE.1 hP (ci := 7) (q0 := 0) rfl rfl, fun U hU hW => ⟨rfl, by rw [hU]; exact hP.sub (ws' := (w_14 q cI cJ cD Mh Mn Mm)) [0] rfl, gEv.warm hW hE⟩⟩ rfl rfl hl.1 rfl (lv_room (Nat.le_of_ble_eq_true rfl)) dX9_necklaces_26 ⟨Nat.zero_le _, Nat.zero_le _⟩) hP hS (gSub rfl) rfl rfl rfl rfl rfl (fun H locs hP hS => ?_)
    refine lv_if_ne (tgt := 34) hx hb dX9_necklaces_29 (by decide) (fun c_5 => ?_) (fun c_5 => ?_)
    · have hf := (if_neg c_5).symm.trans hf
      refine lv_aload_n hx hb dX9_necklaces_34 rfl (lv_at hl 0 rfl) ?_
      refine lv_iload_n hx hb dX9_necklaces_35 rfl (lv_at hl 1 rfl) ?_
      refine lv_iload_n hx hb dX9_necklaces_36 rfl (lv_at hl 2 rfl) ?_
      obtain ⟨My37, hc, hf⟩ := bn_some hf
      try dsimp only at hf
      refine g_call0 (ws' := (w_14_22 q cI cJ cD Mh26 Mn Mm My37)) (st1 := []) hq [14, 22] [14, 22] [.inl 0, .inl 1] (va_runV (As := [.int x1, .int x2]) (rest := []) ⟨hx, hb, hml, hown, hts⟩ (kX9_layLyndon l D cI cJ cD q hq N Mh26 Mn Mm My x1 x2 My37 hc) (cwV 2 hts gX9_necklaces_X9_layLyndon rfl rfl rfl (by decide +kernel) ⟨(Nat.le_of_ble_eq_true rfl), (Nat.le_of_ble_eq_true rfl)⟩) ⟨gP_blind, va_recv hE.1 hP (ci := 7) (q0 := 0) rfl rfl, fun U hU hW => ⟨rfl, by rw [hU]; exact hP.sub (ws' := (w_14_22 q cI cJ cD Mh26 Mn Mm My)) [0, 1] rfl, gEv.warm hW hE⟩⟩ rfl rfl hl.1 rfl (lv_room (Nat.le_of_ble_eq_true rfl)) dX9_necklaces_37 ⟨Nat.zero_le _, Nat.zero_le _⟩) hP hS (gSub rfl) rfl rfl rfl rfl rfl (fun H locs hP hS => ?_)
      refine lv_lconst (v := (0 : Int64)) hx hb dX9_necklaces_40 (by decide) ?_
      refine lv_lstore_n (lv' := [(3, .long (0 : Int64)), (0, .ref (q 14)), (1, .int x1), (2, .int x2)]) hx hb dX9_necklaces_41 rfl hl (by decide) rfl (fun ls hl => ?_)
      refine lv_iconst (v := (1 : Int32)) hx hb dX9_necklaces_42 (by decide) ?_
      refine lv_istore (lv' := [(5, .int (1 : Int32)), (3, .long (0 : Int64)), (0, .ref (q 14)), (1, .int x1), (2, .int x2)]) hx hb dX9_necklaces_43 hl (by decide) rfl (fun ls hl => ?_)
      exact K45 N Mh26 My37 x2 (0 : Int64) (1 : Int32) hf _ _ hP hS _ (lv_sub hl [2, 4, 1, 0] rfl)
    · have hf := (if_pos c_5).symm.trans hf
      refine lv_lconst (v := (0 : Int64)) hx hb dX9_necklaces_32 (by decide) ?_
      cases hf
      exact W.lret hx hb hr (fun t ht hW => ⟨⟨rfl, by rw [ht]; exact hP⟩, hS.F ht⟩) hS.2.2 dX9_necklaces_33
  have J25 : ∀ (Mh : Int32) (My : (Nat → Int64)) (x1 : Int32) (x2 : Int32), fX9_necklaces_J25 N Mn Mm Mh My x1 x2 = some (r0, Mh9, My9) → ∀ (H : Heap) (locs : List Loc), va_P D vwCl (w_14_22 q cI cJ cD Mh Mn Mm My) H → va_S (gA q [14, 22]) s.heap H locs → ∀ ls : Array Slot, lv_has ls 6 [(0, .ref (q 14)), (1, .int x1), (2, .int x2)] → W p l e (headSpec wsX9_necklaces rX9_necklaces).room s m ([.ref (q 14), .int p1, .int p2] : List Value).toArray below meth c H locs 0 0 (MQ below (gQ D (some (.long r0)) (w_14_22 q cI cJ cD Mh9 Mn Mm My9) (gA q [14, 22])) ([.ref (q 14), .int p1, .int p2] : List Value).toArray s 0 0 (gA q [14, 22])) (F0 m 25 ls [.ref (q 14)]) := by
    intro Mh My x1 x2 hf H locs hP hS ls hl
    unfold fX9_necklaces_J25 at hf
    refine lv_iconst (v := (1 : Int32)) hx hb dX9_necklaces_25 (by decide) ?_
    exact J26 Mh My x1 x2 (1 : Int32) hf _ _ hP hS _ (lv_sub hl [0, 1, 2] rfl)
  unfold fX9_necklaces at hf
  refine lv_aload_n hx hb dX9_necklaces_0 rfl (lv_at hl 0 rfl) ?_
  refine lv_iload_n hx hb dX9_necklaces_1 rfl (lv_at hl 1 rfl) ?_
  refine lv_iconst (v := (1 : Int32)) hx hb dX9_necklaces_2 (by decide) ?_
  refine lv_bipush (v := (10 : Int32)) hx hb dX9_necklaces_3 (by decide) ?_
  obtain ⟨r5, hc, hf⟩ := bn_some hf
  try dsimp only at hf
  refine g_call0 (ws' := (w_14_22 q cI cJ cD Mh Mn Mm My)) (st1 := [.int r5, .ref (q 14)]) hq [14, 22] [] [.inr 0, .inr 1] (va_runS (As := [.int p1, .int (1 : Int32), .int (10 : Int32)]) (rest := [.ref (q 14)]) ⟨hx, hb, hml, hown, hts⟩ (kX9_in l D cI cJ cD q hq N p1 (1 : Int32) (10 : Int32) r5 hc) (va_cwS 3 hts gX9_necklaces_X9_in rfl rfl rfl (by decide +kernel) ⟨(Nat.le_of_ble_eq_true rfl), (Nat.le_of_ble_eq_true rfl)⟩) ⟨gP_blind, fun U hU hW => ⟨rfl, by rw [hU]; exact hP.sub (ws' := (w_0none q cI cJ cD)) [] rfl, gEv.warm hW hE⟩⟩ rfl rfl hl.1 rfl (lv_room (Nat.le_of_ble_eq_true rfl)) dX9_necklaces_5 ⟨Nat.zero_le _, Nat.zero_le _⟩) hP hS (gSub rfl) rfl rfl rfl rfl rfl (fun H locs hP hS => ?_)
  refine lv_if_eq (tgt := 25) hx hb dX9_necklaces_8 (by decide) (fun c_6 => ?_) (fun c_6 => ?_)
  · have hf := (if_pos c_6).symm.trans hf
    exact J25 Mh My p1 p2 hf _ _ hP hS _ (lv_sub hl [0, 1, 2] rfl)
  · have hf := (if_neg c_6).symm.trans hf
    refine lv_iload_n hx hb dX9_necklaces_11 rfl (lv_at hl 2 rfl) ?_
    refine lv_iconst (v := (1 : Int32)) hx hb dX9_necklaces_12 (by decide) ?_
    refine lv_bipush (v := (12 : Int32)) hx hb dX9_necklaces_13 (by decide) ?_
    obtain ⟨r15, hc, hf⟩ := bn_some hf
    try dsimp only at hf
    refine g_call0 (ws' := (w_14_22 q cI cJ cD Mh Mn Mm My)) (st1 := [.int r15, .ref (q 14)]) hq [14, 22] [] [.inr 0, .inr 1] (va_runS (As := [.int p2, .int (1 : Int32), .int (12 : Int32)]) (rest := [.ref (q 14)]) ⟨hx, hb, hml, hown, hts⟩ (kX9_in l D cI cJ cD q hq N p2 (1 : Int32) (12 : Int32) r15 hc) (va_cwS 3 hts gX9_necklaces_X9_in rfl rfl rfl (by decide +kernel) ⟨(Nat.le_of_ble_eq_true rfl), (Nat.le_of_ble_eq_true rfl)⟩) ⟨gP_blind, fun U hU hW => ⟨rfl, by rw [hU]; exact hP.sub (ws' := (w_0none q cI cJ cD)) [] rfl, gEv.warm hW hE⟩⟩ rfl rfl hl.1 rfl (lv_room (Nat.le_of_ble_eq_true rfl)) dX9_necklaces_15 ⟨Nat.zero_le _, Nat.zero_le _⟩) hP hS (gSub rfl) rfl rfl rfl rfl rfl (fun H locs hP hS => ?_)
    refine lv_if_eq (tgt := 25) hx hb dX9_necklaces_18 (by decide) (fun c_7 => ?_) (fun c_7 => ?_)
    · have hf := (if_pos c_7).symm.trans hf
      exact J25 Mh My p1 p2 hf _ _ hP hS _ (lv_sub hl [0, 1, 2] rfl)
    · have hf := (if_neg c_7).symm.trans hf
      refine lv_iconst (v := (0 : Int32)) hx hb dX9_necklaces_21 (by decide) ?_
      refine lv_goto (tgt := 26) hx hb dX9_necklaces_22 (by decide) ?_
      exact J26 Mh My p1 p2 (0 : Int32) hf _ _ hP hS _ (lv_sub hl [0, 1, 2] rfl)
set_option maxHeartbeats 4000000 in
set_option maxRecDepth 100000 in
theorem kX9_lyndonWords (l : Launch) (D : va_G) (cI cJ cD : ClassId) (q : Nat → Nat) (hq : gInj q) (N : Nat) (Mh : Int32) (Mn : Int32) (Mm : Int32) (My : (Nat → Int64)) (p1 : Int32) (p2 : Int32) (r0 : Int64) (Mh9 : Int32) (My9 : (Nat → Int64)) (hf : fX9_lyndonWords N Mh Mn Mm My p1 p2 = some (r0, Mh9, My9)) : Met l yX9_lyndonWords wsX9_lyndonWords rX9_lyndonWords (gP D cI cJ cD [.ref (q 14), .int p1, .int p2] (w_14_22 q cI cJ cD Mh Mn Mm My)) (gQ D (some (.long r0)) (w_14_22 q cI cJ cD Mh9 Mn Mm My9) (gA q [14, 22])) 0 0 (gA q [14, 22]) := by
  refine Met.ofW (cc := cX9_lyndonWords) (maxL := 3) (ret := (some .long)) (by decide +kernel) rfl ?_
  intro p e s m args below meth c s₁ B hml hv
  obtain ⟨rfl, hP, hE⟩ := hv
  have hx := B.exec
  have hb := B.bytes
  have hr := B.returns
  have hts := atoms_spec (ws := wsX9_lyndonWords) B.pre
  have hown : s.vm.findClass RX9 = some m.cls := findClass_of_methodNamed B.named
  have hlocks := B.notSynchronized
  have hS : va_S (gA q [14, 22]) s.heap s.heap [] := va_S.rf
  have hl := lv_entry ([.ref (q 14), .int p1, .int p2]) (n := 3) (Nat.le_of_ble_eq_true rfl)
  rw [lg_entry_eq]
  generalize (lg_sl ([.ref (q 14), .int p1, .int p2]) ++ List.replicate (3 - (lg_sl ([.ref (q 14), .int p1, .int p2])).length) Slot.unset).toArray = ls at hl ⊢
  have hl : lv_has ls 3 [(0, .ref (q 14)), (1, .int p1), (2, .int p2)] := hl
  have hk31 := hts (.fieldLink RX9 31 "LyndonTextModel" "lyndon" "[J") (by decide +kernel)
  have huX9 : ∀ w ∈ u_ws RX9 TX9 11, w ∈ wsX9_lyndonWords := by decide +kernel
  have J26 : ∀ (Mh : Int32) (My : (Nat → Int64)) (x1 : Int32) (x2 : Int32) (y1 : Int32), fX9_lyndonWords_J26 N Mn Mm Mh My x1 x2 y1 = some (r0, Mh9, My9) → ∀ (H : Heap) (locs : List Loc), va_P D vwCl (w_14_22 q cI cJ cD Mh Mn Mm My) H → va_S (gA q [14, 22]) s.heap H locs → ∀ ls : Array Slot, lv_has ls 3 [(0, .ref (q 14)), (1, .int x1), (2, .int x2)] → W p l e (headSpec wsX9_lyndonWords rX9_lyndonWords).room s m ([.ref (q 14), .int p1, .int p2] : List Value).toArray below meth c H locs 0 0 (MQ below (gQ D (some (.long r0)) (w_14_22 q cI cJ cD Mh9 Mn Mm My9) (gA q [14, 22])) ([.ref (q 14), .int p1, .int p2] : List Value).toArray s 0 0 (gA q [14, 22])) (F0 m 26 ls [.int y1, .ref (q 14)]) := by
    intro Mh My x1 x2 y1 hf H locs hP hS ls hl
    unfold fX9_lyndonWords_J26 at hf
    obtain ⟨⟨r26, Mh26⟩, hc, hf⟩ := bn_some hf
    try dsimp only at hf
    refine g_call0 (ws' := (w_14_22 q cI cJ cD Mh26 Mn Mm My)) (st1 := [.int r26]) hq [14, 22] [14] [.inl 0, .inr 1] (va_runV (As := [.int y1]) (rest := []) ⟨hx, hb, hml, hown, hts⟩ (kX9_goesWell l D cI cJ cD q hq N Mh Mn Mm y1 r26 Mh26 hc) (cwV 1 hts gX9_lyndonWords_X9_goesWell rfl rfl rfl (by decide +kernel) ⟨(Nat.le_of_ble_eq_true rfl), (Nat.le_of_ble_eq_true rfl)⟩) ⟨gP_blind, va_recv hE.1 hP (ci := 7) (q0 := 0) rfl rfl, fun U hU hW => ⟨rfl, by rw [hU]; exact hP.sub (ws' := (w_14 q cI cJ cD Mh Mn Mm)) [0] rfl, gEv.warm hW hE⟩⟩ rfl rfl hl.1 rfl (lv_room (Nat.le_of_ble_eq_true rfl)) dX9_lyndonWords_26 ⟨Nat.zero_le _, Nat.zero_le _⟩) hP hS (gSub rfl) rfl rfl rfl rfl rfl (fun H locs hP hS => ?_)
    refine lv_if_ne (tgt := 34) hx hb dX9_lyndonWords_29 (by decide) (fun c_1 => ?_) (fun c_1 => ?_)
    · have hf := (if_neg c_1).symm.trans hf
      refine lv_aload_n hx hb dX9_lyndonWords_34 rfl (lv_at hl 0 rfl) ?_
      refine lv_iload_n hx hb dX9_lyndonWords_35 rfl (lv_at hl 1 rfl) ?_
      refine lv_iload_n hx hb dX9_lyndonWords_36 rfl (lv_at hl 2 rfl) ?_
      obtain ⟨My37, hc, hf⟩ := bn_some hf
      try dsimp only at hf
      refine g_call0 (ws' := (w_14_22 q cI cJ cD Mh26 Mn Mm My37)) (st1 := []) hq [14, 22] [14, 22] [.inl 0, .inl 1] (va_runV (As := [.int x1, .int x2]) (rest := []) ⟨hx, hb, hml, hown, hts⟩ (kX9_layLyndon l D cI cJ cD q hq N Mh26 Mn Mm My x1 x2 My37 hc) (cwV 2 hts gX9_lyndonWords_X9_layLyndon rfl rfl rfl (by decide +kernel) ⟨(Nat.le_of_ble_eq_true rfl), (Nat.le_of_ble_eq_true rfl)⟩) ⟨gP_blind, va_recv hE.1 hP (ci := 7) (q0 := 0) rfl rfl, fun U hU hW => ⟨rfl, by rw [hU]; exact hP.sub (ws' := (w_14_22 q cI cJ cD Mh26 Mn Mm My)) [0, 1] rfl, gEv.warm hW hE⟩⟩ rfl rfl hl.1 rfl (lv_room (Nat.le_of_ble_eq_true rfl)) dX9_lyndonWords_37 ⟨Nat.zero_le _, Nat.zero_le _⟩) hP hS (gSub rfl) rfl rfl rfl rfl rfl (fun H locs hP hS => ?_)
      refine lv_aload_n hx hb dX9_lyndonWords_40 rfl (lv_at hl 0 rfl) ?_
      refine va_get (D := D) (ci := 7) (v := .ref (q 22)) (C := RX9) (T := TX9) (N := 11) hx hb hts huX9 hown hE.1 hP 0 rfl rfl 10 (by decide) hk31 (fun _ h9 => h9) rfl dX9_lyndonWords_41 ?_
      refine lv_iload_n hx hb dX9_lyndonWords_44 rfl (lv_at hl 2 rfl) ?_
      obtain ⟨g_2, hf⟩ := gd_some hf
      refine va_lald hx hb hE.1 hP 1 1 rfl rfl (inb_in g_2) dX9_lyndonWords_45 ?_
      cases hf
      exact W.lret hx hb hr (fun t ht hW => ⟨⟨rfl, by rw [ht]; exact hP⟩, hS.F ht⟩) hS.2.2 dX9_lyndonWords_46
    · have hf := (if_pos c_1).symm.trans hf
      refine lv_lconst (v := (0 : Int64)) hx hb dX9_lyndonWords_32 (by decide) ?_
      cases hf
      exact W.lret hx hb hr (fun t ht hW => ⟨⟨rfl, by rw [ht]; exact hP⟩, hS.F ht⟩) hS.2.2 dX9_lyndonWords_33
  have J25 : ∀ (Mh : Int32) (My : (Nat → Int64)) (x1 : Int32) (x2 : Int32), fX9_lyndonWords_J25 N Mn Mm Mh My x1 x2 = some (r0, Mh9, My9) → ∀ (H : Heap) (locs : List Loc), va_P D vwCl (w_14_22 q cI cJ cD Mh Mn Mm My) H → va_S (gA q [14, 22]) s.heap H locs → ∀ ls : Array Slot, lv_has ls 3 [(0, .ref (q 14)), (1, .int x1), (2, .int x2)] → W p l e (headSpec wsX9_lyndonWords rX9_lyndonWords).room s m ([.ref (q 14), .int p1, .int p2] : List Value).toArray below meth c H locs 0 0 (MQ below (gQ D (some (.long r0)) (w_14_22 q cI cJ cD Mh9 Mn Mm My9) (gA q [14, 22])) ([.ref (q 14), .int p1, .int p2] : List Value).toArray s 0 0 (gA q [14, 22])) (F0 m 25 ls [.ref (q 14)]) := by
    intro Mh My x1 x2 hf H locs hP hS ls hl
    unfold fX9_lyndonWords_J25 at hf
    refine lv_iconst (v := (1 : Int32)) hx hb dX9_lyndonWords_25 (by decide) ?_
    exact J26 Mh My x1 x2 (1 : Int32) hf _ _ hP hS _ (lv_sub hl [0, 1, 2] rfl)
  unfold fX9_lyndonWords at hf
  refine lv_aload_n hx hb dX9_lyndonWords_0 rfl (lv_at hl 0 rfl) ?_
  refine lv_iload_n hx hb dX9_lyndonWords_1 rfl (lv_at hl 1 rfl) ?_
  refine lv_iconst (v := (1 : Int32)) hx hb dX9_lyndonWords_2 (by decide) ?_
  refine lv_bipush (v := (10 : Int32)) hx hb dX9_lyndonWords_3 (by decide) ?_
  obtain ⟨r5, hc, hf⟩ := bn_some hf
  try dsimp only at hf
  refine g_call0 (ws' := (w_14_22 q cI cJ cD Mh Mn Mm My)) (st1 := [.int r5, .ref (q 14)]) hq [14, 22] [] [.inr 0, .inr 1] (va_runS (As := [.int p1, .int (1 : Int32), .int (10 : Int32)]) (rest := [.ref (q 14)]) ⟨hx, hb, hml, hown, hts⟩ (kX9_in l D cI cJ cD q hq N p1 (1 : Int32) (10 : Int32) r5 hc) (va_cwS 3 hts gX9_lyndonWords_X9_in rfl rfl rfl (by decide +kernel) ⟨(Nat.le_of_ble_eq_true rfl), (Nat.le_of_ble_eq_true rfl)⟩) ⟨gP_blind, fun U hU hW => ⟨rfl, by rw [hU]; exact hP.sub (ws' := (w_0none q cI cJ cD)) [] rfl, gEv.warm hW hE⟩⟩ rfl rfl hl.1 rfl (lv_room (Nat.le_of_ble_eq_true rfl)) dX9_lyndonWords_5 ⟨Nat.zero_le _, Nat.zero_le _⟩) hP hS (gSub rfl) rfl rfl rfl rfl rfl (fun H locs hP hS => ?_)
  refine lv_if_eq (tgt := 25) hx hb dX9_lyndonWords_8 (by decide) (fun c_3 => ?_) (fun c_3 => ?_)
  · have hf := (if_pos c_3).symm.trans hf
    exact J25 Mh My p1 p2 hf _ _ hP hS _ (lv_sub hl [0, 1, 2] rfl)
  · have hf := (if_neg c_3).symm.trans hf
    refine lv_iload_n hx hb dX9_lyndonWords_11 rfl (lv_at hl 2 rfl) ?_
    refine lv_iconst (v := (1 : Int32)) hx hb dX9_lyndonWords_12 (by decide) ?_
    refine lv_bipush (v := (12 : Int32)) hx hb dX9_lyndonWords_13 (by decide) ?_
    obtain ⟨r15, hc, hf⟩ := bn_some hf
    try dsimp only at hf
    refine g_call0 (ws' := (w_14_22 q cI cJ cD Mh Mn Mm My)) (st1 := [.int r15, .ref (q 14)]) hq [14, 22] [] [.inr 0, .inr 1] (va_runS (As := [.int p2, .int (1 : Int32), .int (12 : Int32)]) (rest := [.ref (q 14)]) ⟨hx, hb, hml, hown, hts⟩ (kX9_in l D cI cJ cD q hq N p2 (1 : Int32) (12 : Int32) r15 hc) (va_cwS 3 hts gX9_lyndonWords_X9_in rfl rfl rfl (by decide +kernel) ⟨(Nat.le_of_ble_eq_true rfl), (Nat.le_of_ble_eq_true rfl)⟩) ⟨gP_blind, fun U hU hW => ⟨rfl, by rw [hU]; exact hP.sub (ws' := (w_0none q cI cJ cD)) [] rfl, gEv.warm hW hE⟩⟩ rfl rfl hl.1 rfl (lv_room (Nat.le_of_ble_eq_true rfl)) dX9_lyndonWords_15 ⟨Nat.zero_le _, Nat.zero_le _⟩) hP hS (gSub rfl) rfl rfl rfl rfl rfl (fun H locs hP hS => ?_)
    refine lv_if_eq (tgt := 25) hx hb dX9_lyndonWords_18 (by decide) (fun c_4 => ?_) (fun c_4 => ?_)
    · have hf := (if_pos c_4).symm.trans hf
      exact J25 Mh My p1 p2 hf _ _ hP hS _ (lv_sub hl [0, 1, 2] rfl)
    · have hf := (if_neg c_4).symm.trans hf
      refine lv_iconst (v := (0 : Int32)) hx hb dX9_lyndonWords_21 (by decide) ?_
      refine lv_goto (tgt := 26) hx hb dX9_lyndonWords_22 (by decide) ?_
      exact J26 Mh My p1 p2 (0 : Int32) hf _ _ hP hS _ (lv_sub hl [0, 1, 2] rfl)
set_option maxHeartbeats 4000000 in
set_option maxRecDepth 100000 in
theorem kX9_isOf (l : Launch) (D : va_G) (cI cJ cD : ClassId) (q : Nat → Nat) (hq : gInj q) (N : Nat) (Mh : Int32) (Mn : Int32) (Mm : Int32) (Mt : (Nat → Int32)) (p1 : Int32) (p2 : Int32) (p3 : Int32) (r0 : Int32) (hf : fX9_isOf N Mh Mn Mm Mt p1 p2 p3 = some r0) : Met l yX9_isOf wsX9_isOf rX9_isOf (gP D cI cJ cD [.ref (q 14), .int p1, .int p2, .int p3] (w_14_15 q cI cJ cD Mh Mn Mm Mt)) (gQ D (some (.int r0)) (w_14_15 q cI cJ cD Mh Mn Mm Mt) (gA q [14, 15])) 0 0 (gA q [14, 15]) := by
  refine Met.ofW (cc := cX9_isOf) (maxL := 6) (ret := (some .boolean)) (by decide +kernel) rfl ?_
  intro p e s m args below meth c s₁ B hml hv
  obtain ⟨rfl, hP, hE⟩ := hv
  have hx := B.exec
  have hb := B.bytes
  have hr := B.returns
  have hts := atoms_spec (ws := wsX9_isOf) B.pre
  have hown : s.vm.findClass RX9 = some m.cls := findClass_of_methodNamed B.named
  have hlocks := B.notSynchronized
  have hS : va_S (gA q [14, 15]) s.heap s.heap [] := va_S.rf
  have hl := lv_entry ([.ref (q 14), .int p1, .int p2, .int p3]) (n := 6) (Nat.le_of_ble_eq_true rfl)
  rw [lg_entry_eq]
  generalize (lg_sl ([.ref (q 14), .int p1, .int p2, .int p3]) ++ List.replicate (6 - (lg_sl ([.ref (q 14), .int p1, .int p2, .int p3])).length) Slot.unset).toArray = ls at hl ⊢
  have hl : lv_has ls 6 [(0, .ref (q 14)), (1, .int p1), (2, .int p2), (3, .int p3)] := hl
  have hk7 := hts (.fieldLink RX9 7 "LyndonTextModel" "text" "[I") (by decide +kernel)
  have huX9 : ∀ w ∈ u_ws RX9 TX9 11, w ∈ wsX9_isOf := by decide +kernel
  have J53 : ∀ (x4 : Int32), fX9_isOf_J53 N Mh Mn Mm Mt x4 = some r0 → ∀ (H : Heap) (locs : List Loc), va_P D vwCl (w_14_15 q cI cJ cD Mh Mn Mm Mt) H → va_S (gA q [14, 15]) s.heap H locs → ∀ ls : Array Slot, lv_has ls 6 [(4, .int x4)] → W p l e (headSpec wsX9_isOf rX9_isOf).room s m ([.ref (q 14), .int p1, .int p2, .int p3] : List Value).toArray below meth c H locs 0 0 (MQ below (gQ D (some (.int r0)) (w_14_15 q cI cJ cD Mh Mn Mm Mt) (gA q [14, 15])) ([.ref (q 14), .int p1, .int p2, .int p3] : List Value).toArray s 0 0 (gA q [14, 15])) (F0 m 53 ls []) := by
    intro x4 hf H locs hP hS ls hl
    unfold fX9_isOf_J53 at hf
    refine lv_iload hx hb dX9_isOf_53 (lv_at hl 0 rfl) ?_
    obtain ⟨g_1, hf⟩ := gd_some hf
    cases hf
    exact W.zret (ty := .boolean) hx hb hr (isB_nar g_1) (fun t ht hW => ⟨⟨rfl, by rw [ht]; exact hP⟩, hS.F ht⟩) hS.2.2 dX9_isOf_55
  have K18 : ∀ (n18 : Nat) (x2 : Int32) (x3 : Int32) (x4 : Int32) (x5 : Int32), fX9_isOf_H18 N Mh Mn Mm Mt n18 x2 x3 x4 x5 = some r0 → ∀ (H : Heap) (locs : List Loc), va_P D vwCl (w_14_15 q cI cJ cD Mh Mn Mm Mt) H → va_S (gA q [14, 15]) s.heap H locs → ∀ ls : Array Slot, lv_has ls 6 [(0, .ref (q 14)), (2, .int x2), (3, .int x3), (4, .int x4), (5, .int x5)] → W p l e (headSpec wsX9_isOf rX9_isOf).room s m ([.ref (q 14), .int p1, .int p2, .int p3] : List Value).toArray below meth c H locs 0 0 (MQ below (gQ D (some (.int r0)) (w_14_15 q cI cJ cD Mh Mn Mm Mt) (gA q [14, 15])) ([.ref (q 14), .int p1, .int p2, .int p3] : List Value).toArray s 0 0 (gA q [14, 15])) (F0 m 18 ls []) := by
    intro n18
    induction n18 with
    | zero =>
      intro x2 x3 x4 x5 hf
      exact nomatch (show (none : Option Int32) = some r0 from hf)
    | succ n18 ih18 =>
      have J45 : ∀ (x2 : Int32) (x3 : Int32) (x5 : Int32) (y0 : Int32), fX9_isOf_J45 N Mh Mn Mm Mt (fX9_isOf_H18 N Mh Mn Mm Mt n18) x2 x3 x5 y0 = some r0 → ∀ (H : Heap) (locs : List Loc), va_P D vwCl (w_14_15 q cI cJ cD Mh Mn Mm Mt) H → va_S (gA q [14, 15]) s.heap H locs → ∀ ls : Array Slot, lv_has ls 6 [(0, .ref (q 14)), (2, .int x2), (3, .int x3), (5, .int x5)] → W p l e (headSpec wsX9_isOf rX9_isOf).room s m ([.ref (q 14), .int p1, .int p2, .int p3] : List Value).toArray below meth c H locs 0 0 (MQ below (gQ D (some (.int r0)) (w_14_15 q cI cJ cD Mh Mn Mm Mt) (gA q [14, 15])) ([.ref (q 14), .int p1, .int p2, .int p3] : List Value).toArray s 0 0 (gA q [14, 15])) (F0 m 45 ls [.int y0]) := by
        intro x2 x3 x5 y0 hf H locs hP hS ls hl
        unfold fX9_isOf_J45 at hf
        refine lv_istore (lv' := [(4, .int y0), (0, .ref (q 14)), (2, .int x2), (3, .int x3), (5, .int x5)]) hx hb dX9_isOf_45 hl (by decide) rfl (fun ls hl => ?_)
        refine lv_iinc (v := (x5 + 1)) (lv' := [(5, .int (x5 + 1)), (4, .int y0), (0, .ref (q 14)), (2, .int x2), (3, .int x3)]) hx hb dX9_isOf_47 hl (k := 4) rfl rfl (by decide) rfl (fun ls hl => ?_)
        refine lv_goto (tgt := 18) hx hb dX9_isOf_50 (by decide) ?_
        exact ih18 x2 x3 y0 (x5 + 1) hf _ _ hP hS _ (lv_sub hl [2, 3, 4, 1, 0] rfl)
      have J44 : ∀ (x2 : Int32) (x3 : Int32) (x5 : Int32), fX9_isOf_J44 N Mh Mn Mm Mt (fX9_isOf_H18 N Mh Mn Mm Mt n18) x2 x3 x5 = some r0 → ∀ (H : Heap) (locs : List Loc), va_P D vwCl (w_14_15 q cI cJ cD Mh Mn Mm Mt) H → va_S (gA q [14, 15]) s.heap H locs → ∀ ls : Array Slot, lv_has ls 6 [(0, .ref (q 14)), (2, .int x2), (3, .int x3), (5, .int x5)] → W p l e (headSpec wsX9_isOf rX9_isOf).room s m ([.ref (q 14), .int p1, .int p2, .int p3] : List Value).toArray below meth c H locs 0 0 (MQ below (gQ D (some (.int r0)) (w_14_15 q cI cJ cD Mh Mn Mm Mt) (gA q [14, 15])) ([.ref (q 14), .int p1, .int p2, .int p3] : List Value).toArray s 0 0 (gA q [14, 15])) (F0 m 44 ls []) := by
        intro x2 x3 x5 hf H locs hP hS ls hl
        unfold fX9_isOf_J44 at hf
        refine lv_iconst (v := (0 : Int32)) hx hb dX9_isOf_44 (by decide) ?_
        exact J45 x2 x3 x5 (0 : Int32) hf _ _ hP hS _ (lv_sub hl [0, 1, 2, 3] rfl)
      intro x2 x3 x4 x5 hf H locs hP hS ls hl
      have hf : fX9_isOf_B18 N Mh Mn Mm Mt (fX9_isOf_H18 N Mh Mn Mm Mt n18) x2 x3 x4 x5 = some r0 := hf
      unfold fX9_isOf_B18 at hf
      refine lv_iload hx hb dX9_isOf_18 (lv_at hl 4 rfl) ?_
      refine lv_iload_n hx hb dX9_isOf_20 rfl (lv_at hl 1 rfl) ?_
      refine lv_icmp_ge (tgt := 53) hx hb dX9_isOf_21 (by decide) (fun c_2 => ?_) (fun c_2 => ?_)
      · have hf := (if_pos c_2).symm.trans hf
        exact J53 x4 hf _ _ hP hS _ (lv_sub hl [3] rfl)
      · have hf := (if_neg c_2).symm.trans hf
        refine lv_iload hx hb dX9_isOf_24 (lv_at hl 3 rfl) ?_
        refine lv_if_eq (tgt := 44) hx hb dX9_isOf_26 (by decide) (fun c_3 => ?_) (fun c_3 => ?_)
        · have hf := (if_pos c_3).symm.trans hf
          exact J44 x2 x3 x5 hf _ _ hP hS _ (lv_sub hl [0, 1, 2, 4] rfl)
        · have hf := (if_neg c_3).symm.trans hf
          refine lv_aload_n hx hb dX9_isOf_29 rfl (lv_at hl 0 rfl) ?_
          refine va_get (D := D) (ci := 7) (v := .ref (q 15)) (C := RX9) (T := TX9) (N := 11) hx hb hts huX9 hown hE.1 hP 0 rfl rfl 2 (by decide) hk7 (fun _ h9 => h9) rfl dX9_isOf_30 ?_
          refine lv_iload hx hb dX9_isOf_33 (lv_at hl 4 rfl) ?_
          obtain ⟨g_4, hf⟩ := gd_some hf
          refine va_iald hx hb hE.1 hP 1 0 rfl rfl (inb_in g_4) dX9_isOf_35 ?_
          refine lv_iload_n hx hb dX9_isOf_36 rfl (lv_at hl 2 rfl) ?_
          refine lv_icmp_ge (tgt := 44) hx hb dX9_isOf_37 (by decide) (fun c_5 => ?_) (fun c_5 => ?_)
          · have hf := (if_pos c_5).symm.trans hf
            exact J44 x2 x3 x5 hf _ _ hP hS _ (lv_sub hl [0, 1, 2, 4] rfl)
          · have hf := (if_neg c_5).symm.trans hf
            refine lv_iconst (v := (1 : Int32)) hx hb dX9_isOf_40 (by decide) ?_
            refine lv_goto (tgt := 45) hx hb dX9_isOf_41 (by decide) ?_
            exact J45 x2 x3 x5 (1 : Int32) hf _ _ hP hS _ (lv_sub hl [0, 1, 2, 4] rfl)
  have J13 : ∀ (x1 : Int32) (x2 : Int32) (x3 : Int32) (y0 : Int32), fX9_isOf_J13 N Mh Mn Mm Mt x1 x2 x3 y0 = some r0 → ∀ (H : Heap) (locs : List Loc), va_P D vwCl (w_14_15 q cI cJ cD Mh Mn Mm Mt) H → va_S (gA q [14, 15]) s.heap H locs → ∀ ls : Array Slot, lv_has ls 6 [(0, .ref (q 14)), (1, .int x1), (2, .int x2), (3, .int x3)] → W p l e (headSpec wsX9_isOf rX9_isOf).room s m ([.ref (q 14), .int p1, .int p2, .int p3] : List Value).toArray below meth c H locs 0 0 (MQ below (gQ D (some (.int r0)) (w_14_15 q cI cJ cD Mh Mn Mm Mt) (gA q [14, 15])) ([.ref (q 14), .int p1, .int p2, .int p3] : List Value).toArray s 0 0 (gA q [14, 15])) (F0 m 13 ls [.int y0]) := by
    intro x1 x2 x3 y0 hf H locs hP hS ls hl
    unfold fX9_isOf_J13 at hf
    refine lv_istore (lv' := [(4, .int y0), (0, .ref (q 14)), (1, .int x1), (2, .int x2), (3, .int x3)]) hx hb dX9_isOf_13 hl (by decide) rfl (fun ls hl => ?_)
    refine lv_iload_n hx hb dX9_isOf_15 rfl (lv_at hl 2 rfl) ?_
    refine lv_istore (lv' := [(5, .int x1), (4, .int y0), (0, .ref (q 14)), (1, .int x1), (2, .int x2), (3, .int x3)]) hx hb dX9_isOf_16 hl (by decide) rfl (fun ls hl => ?_)
    exact K18 N x2 x3 y0 x1 hf _ _ hP hS _ (lv_sub hl [2, 4, 5, 1, 0] rfl)
  unfold fX9_isOf at hf
  refine lv_iload_n hx hb dX9_isOf_0 rfl (lv_at hl 2 rfl) ?_
  refine lv_iload_n hx hb dX9_isOf_1 rfl (lv_at hl 1 rfl) ?_
  refine lv_isub hx hb dX9_isOf_2 ?_
  refine lv_bipush (v := (8 : Int32)) hx hb dX9_isOf_3 (by decide) ?_
  refine lv_icmp_gt (tgt := 12) hx hb dX9_isOf_5 (by decide) (fun c_6 => ?_) (fun c_6 => ?_)
  · have hf := (if_pos c_6).symm.trans hf
    refine lv_iconst (v := (0 : Int32)) hx hb dX9_isOf_12 (by decide) ?_
    exact J13 p1 p2 p3 (0 : Int32) hf _ _ hP hS _ (lv_sub hl [0, 1, 2, 3] rfl)
  · have hf := (if_neg c_6).symm.trans hf
    refine lv_iconst (v := (1 : Int32)) hx hb dX9_isOf_8 (by decide) ?_
    refine lv_goto (tgt := 13) hx hb dX9_isOf_9 (by decide) ?_
    exact J13 p1 p2 p3 (1 : Int32) hf _ _ hP hS _ (lv_sub hl [0, 1, 2, 3] rfl)
set_option maxHeartbeats 4000000 in
set_option maxRecDepth 100000 in
theorem kX9_necklaceNumber (l : Launch) (D : va_G) (cI cJ cD : ClassId) (q : Nat → Nat) (hq : gInj q) (N : Nat) (Mh : Int32) (Mn : Int32) (Mm : Int32) (Mt : (Nat → Int32)) (Mw : (Nat → Int32)) (p1 : Int32) (p2 : Int32) (p3 : Int32) (r0 : Int32) (Mh9 : Int32) (Mw9 : (Nat → Int32)) (hf : fX9_necklaceNumber N Mh Mn Mm Mt Mw p1 p2 p3 = some (r0, Mh9, Mw9)) : Met l yX9_necklaceNumber wsX9_necklaceNumber rX9_necklaceNumber (gP D cI cJ cD [.ref (q 14), .int p1, .int p2, .int p3] (w_14_15_20 q cI cJ cD Mh Mn Mm Mt Mw)) (gQ D (some (.int r0)) (w_14_15_20 q cI cJ cD Mh9 Mn Mm Mt Mw9) (gA q [14, 15, 20])) 0 0 (gA q [14, 15, 20]) := by
  refine Met.ofW (cc := cX9_necklaceNumber) (maxL := 9) (ret := (some .int)) (by decide +kernel) rfl ?_
  intro p e s m args below meth c s₁ B hml hv
  obtain ⟨rfl, hP, hE⟩ := hv
  have hx := B.exec
  have hb := B.bytes
  have hr := B.returns
  have hts := atoms_spec (ws := wsX9_necklaceNumber) B.pre
  have hown : s.vm.findClass RX9 = some m.cls := findClass_of_methodNamed B.named
  have hlocks := B.notSynchronized
  have hS : va_S (gA q [14, 15, 20]) s.heap s.heap [] := va_S.rf
  have hl := lv_entry ([.ref (q 14), .int p1, .int p2, .int p3]) (n := 9) (Nat.le_of_ble_eq_true rfl)
  rw [lg_entry_eq]
  generalize (lg_sl ([.ref (q 14), .int p1, .int p2, .int p3]) ++ List.replicate (9 - (lg_sl ([.ref (q 14), .int p1, .int p2, .int p3])).length) Slot.unset).toArray = ls at hl ⊢
  have hl : lv_has ls 9 [(0, .ref (q 14)), (1, .int p1), (2, .int p2), (3, .int p3)] := hl
  have hk7 := hts (.fieldLink RX9 7 "LyndonTextModel" "text" "[I") (by decide +kernel)
  have huX9 : ∀ w ∈ u_ws RX9 TX9 11, w ∈ wsX9_necklaceNumber := by decide +kernel
  have J151 : ∀ (Mh : Int32) (Mw : (Nat → Int32)) (x7 : Int32), fX9_necklaceNumber_J151 N Mn Mm Mt Mh Mw x7 = some (r0, Mh9, Mw9) → ∀ (H : Heap) (locs : List Loc), va_P D vwCl (w_14_15_20 q cI cJ cD Mh Mn Mm Mt Mw) H → va_S (gA q [14, 15, 20]) s.heap H locs → ∀ ls : Array Slot, lv_has ls 9 [(7, .int x7)] → W p l e (headSpec wsX9_necklaceNumber rX9_necklaceNumber).room s m ([.ref (q 14), .int p1, .int p2, .int p3] : List Value).toArray below meth c H locs 0 0 (MQ below (gQ D (some (.int r0)) (w_14_15_20 q cI cJ cD Mh9 Mn Mm Mt Mw9) (gA q [14, 15, 20])) ([.ref (q 14), .int p1, .int p2, .int p3] : List Value).toArray s 0 0 (gA q [14, 15, 20])) (F0 m 151 ls []) := by
    intro Mh Mw x7 hf H locs hP hS ls hl
    unfold fX9_necklaceNumber_J151 at hf
    refine lv_iload hx hb dX9_necklaceNumber_151 (lv_at hl 0 rfl) ?_
    cases hf
    exact W.iret hx hb hr (fun t ht hW => ⟨⟨rfl, by rw [ht]; exact hP⟩, hS.F ht⟩) hS.2.2 dX9_necklaceNumber_153
  have K110 : ∀ (n110 : Nat) (Mh : Int32) (Mw : (Nat → Int32)) (x3 : Int32) (x4 : Int32) (x6 : Int32) (x7 : Int32) (x8 : Int32), fX9_necklaceNumber_H110 N Mn Mm Mt n110 Mh Mw x3 x4 x6 x7 x8 = some (r0, Mh9, Mw9) → ∀ (H : Heap) (locs : List Loc), va_P D vwCl (w_14_15_20 q cI cJ cD Mh Mn Mm Mt Mw) H → va_S (gA q [14, 15, 20]) s.heap H locs → ∀ ls : Array Slot, lv_has ls 9 [(0, .ref (q 14)), (3, .int x3), (4, .int x4), (6, .int x6), (7, .int x7), (8, .int x8)] → W p l e (headSpec wsX9_necklaceNumber rX9_necklaceNumber).room s m ([.ref (q 14), .int p1, .int p2, .int p3] : List Value).toArray below meth c H locs 0 0 (MQ below (gQ D (some (.int r0)) (w_14_15_20 q cI cJ cD Mh9 Mn Mm Mt Mw9) (gA q [14, 15, 20])) ([.ref (q 14), .int p1, .int p2, .int p3] : List Value).toArray s 0 0 (gA q [14, 15, 20])) (F0 m 110 ls []) := by
    intro n110
    induction n110 with
    | zero =>
      intro Mh Mw x3 x4 x6 x7 x8 hf
      exact nomatch (show (none : Option (Int32 × Int32 × (Nat → Int32))) = some (r0, Mh9, Mw9) from hf)
    | succ n110 ih110 =>
      have J142 : ∀ (Mh : Int32) (Mw : (Nat → Int32)) (x3 : Int32) (x4 : Int32) (x6 : Int32) (x8 : Int32) (y0 : Int32) (y1 : Int32), fX9_necklaceNumber_J142 N Mn Mm Mt (fX9_necklaceNumber_H110 N Mn Mm Mt n110) Mh Mw x3 x4 x6 x8 y0 y1 = some (r0, Mh9, Mw9) → ∀ (H : Heap) (locs : List Loc), va_P D vwCl (w_14_15_20 q cI cJ cD Mh Mn Mm Mt Mw) H → va_S (gA q [14, 15, 20]) s.heap H locs → ∀ ls : Array Slot, lv_has ls 9 [(0, .ref (q 14)), (3, .int x3), (4, .int x4), (6, .int x6), (8, .int x8)] → W p l e (headSpec wsX9_necklaceNumber rX9_necklaceNumber).room s m ([.ref (q 14), .int p1, .int p2, .int p3] : List Value).toArray below meth c H locs 0 0 (MQ below (gQ D (some (.int r0)) (w_14_15_20 q cI cJ cD Mh9 Mn Mm Mt Mw9) (gA q [14, 15, 20])) ([.ref (q 14), .int p1, .int p2, .int p3] : List Value).toArray s 0 0 (gA q [14, 15, 20])) (F0 m 142 ls [.int y1, .int y0]) := by
        intro Mh Mw x3 x4 x6 x8 y0 y1 hf H locs hP hS ls hl
        unfold fX9_necklaceNumber_J142 at hf
        refine lv_iadd hx hb dX9_necklaceNumber_142 ?_
        refine lv_istore (lv' := [(7, .int (y0 + y1)), (0, .ref (q 14)), (3, .int x3), (4, .int x4), (6, .int x6), (8, .int x8)]) hx hb dX9_necklaceNumber_143 hl (by decide) rfl (fun ls hl => ?_)
        refine lv_iinc (v := (x8 + 1)) (lv' := [(8, .int (x8 + 1)), (7, .int (y0 + y1)), (0, .ref (q 14)), (3, .int x3), (4, .int x4), (6, .int x6)]) hx hb dX9_necklaceNumber_145 hl (k := 5) rfl rfl (by decide) rfl (fun ls hl => ?_)
        refine lv_goto (tgt := 110) hx hb dX9_necklaceNumber_148 (by decide) ?_
        exact ih110 Mh Mw x3 x4 x6 (y0 + y1) (x8 + 1) hf _ _ hP hS _ (lv_sub hl [2, 3, 4, 5, 1, 0] rfl)
      intro Mh Mw x3 x4 x6 x7 x8 hf H locs hP hS ls hl
      have hf : fX9_necklaceNumber_B110 N Mn Mm Mt (fX9_necklaceNumber_H110 N Mn Mm Mt n110) Mh Mw x3 x4 x6 x7 x8 = some (r0, Mh9, Mw9) := hf
      unfold fX9_necklaceNumber_B110 at hf
      refine lv_iload hx hb dX9_necklaceNumber_110 (lv_at hl 5 rfl) ?_
      refine lv_iload hx hb dX9_necklaceNumber_112 (lv_at hl 3 rfl) ?_
      refine lv_icmp_ge (tgt := 151) hx hb dX9_necklaceNumber_114 (by decide) (fun c_1 => ?_) (fun c_1 => ?_)
      · have hf := (if_pos c_1).symm.trans hf
        exact J151 Mh Mw x7 hf _ _ hP hS _ (lv_sub hl [4] rfl)
      · have hf := (if_neg c_1).symm.trans hf
        refine lv_aload_n hx hb dX9_necklaceNumber_117 rfl (lv_at hl 0 rfl) ?_
        refine lv_iload hx hb dX9_necklaceNumber_118 (lv_at hl 5 rfl) ?_
        refine lv_iload_n hx hb dX9_necklaceNumber_120 rfl (lv_at hl 1 rfl) ?_
        refine lv_iload hx hb dX9_necklaceNumber_121 (lv_at hl 2 rfl) ?_
        obtain ⟨Mw123, hc, hf⟩ := bn_some hf
        try dsimp only at hf
        refine g_call0 (ws' := (w_14_15_20 q cI cJ cD Mh Mn Mm Mt Mw123)) (st1 := []) hq [14, 15, 20] [14, 20] [.inl 0, .inr 1, .inl 1] (va_runV (As := [.int x8, .int x3, .int x4]) (rest := []) ⟨hx, hb, hml, hown, hts⟩ (kX9_layWord l D cI cJ cD q hq N Mh Mn Mm Mw x8 x3 x4 Mw123 hc) (cwV 3 hts gX9_necklaceNumber_X9_layWord rfl rfl rfl (by decide +kernel) ⟨(Nat.le_of_ble_eq_true rfl), (Nat.le_of_ble_eq_true rfl)⟩) ⟨gP_blind, va_recv hE.1 hP (ci := 7) (q0 := 0) rfl rfl, fun U hU hW => ⟨rfl, by rw [hU]; exact hP.sub (ws' := (w_14_20 q cI cJ cD Mh Mn Mm Mw)) [0, 2] rfl, gEv.warm hW hE⟩⟩ rfl rfl hl.1 rfl (lv_room (Nat.le_of_ble_eq_true rfl)) dX9_necklaceNumber_123 ⟨Nat.zero_le _, Nat.zero_le _⟩) hP hS (gSub rfl) rfl rfl rfl rfl rfl (fun H locs hP hS => ?_)
        refine lv_iload hx hb dX9_necklaceNumber_126 (lv_at hl 4 rfl) ?_
        refine lv_aload_n hx hb dX9_necklaceNumber_128 rfl (lv_at hl 0 rfl) ?_
        refine lv_iload hx hb dX9_necklaceNumber_129 (lv_at hl 2 rfl) ?_
        obtain ⟨r131, hc, hf⟩ := bn_some hf
        try dsimp only at hf
        refine g_call0 (ws' := (w_14_15_20 q cI cJ cD Mh Mn Mm Mt Mw123)) (st1 := [.int r131, .int x7]) hq [14, 15, 20] [14, 20] [.inl 0, .inr 1, .inl 1] (va_runV (As := [.int x4]) (rest := [.int x7]) ⟨hx, hb, hml, hown, hts⟩ (kX9_isNecklaceWord l D cI cJ cD q hq N Mh Mn Mm Mw123 x4 r131 hc) (cwV 1 hts gX9_necklaceNumber_X9_isNecklaceWord rfl rfl rfl (by decide +kernel) ⟨(Nat.le_of_ble_eq_true rfl), (Nat.le_of_ble_eq_true rfl)⟩) ⟨gP_blind, va_recv hE.1 hP (ci := 7) (q0 := 0) rfl rfl, fun U hU hW => ⟨rfl, by rw [hU]; exact hP.sub (ws' := (w_14_20 q cI cJ cD Mh Mn Mm Mw123)) [0, 2] rfl, gEv.warm hW hE⟩⟩ rfl rfl hl.1 rfl (lv_room (Nat.le_of_ble_eq_true rfl)) dX9_necklaceNumber_131 ⟨Nat.zero_le _, Nat.zero_le _⟩) hP hS (gSub rfl) rfl rfl rfl rfl rfl (fun H locs hP hS => ?_)
        refine lv_if_eq (tgt := 141) hx hb dX9_necklaceNumber_134 (by decide) (fun c_2 => ?_) (fun c_2 => ?_)
        · have hf := (if_pos c_2).symm.trans hf
          refine lv_iconst (v := (0 : Int32)) hx hb dX9_necklaceNumber_141 (by decide) ?_
          exact J142 Mh Mw123 x3 x4 x6 x8 x7 (0 : Int32) hf _ _ hP hS _ (lv_sub hl [0, 1, 2, 3, 5] rfl)
        · have hf := (if_neg c_2).symm.trans hf
          refine lv_iconst (v := (1 : Int32)) hx hb dX9_necklaceNumber_137 (by decide) ?_
          refine lv_goto (tgt := 142) hx hb dX9_necklaceNumber_138 (by decide) ?_
          exact J142 Mh Mw123 x3 x4 x6 x8 x7 (1 : Int32) hf _ _ hP hS _ (lv_sub hl [0, 1, 2, 3, 5] rfl)
  have J104 : ∀ (Mh : Int32) (Mw : (Nat → Int32)) (x3 : Int32) (x4 : Int32) (x6 : Int32), fX9_necklaceNumber_J104 N Mn Mm Mt Mh Mw x3 x4 x6 = some (r0, Mh9, Mw9) → ∀ (H : Heap) (locs : List Loc), va_P D vwCl (w_14_15_20 q cI cJ cD Mh Mn Mm Mt Mw) H → va_S (gA q [14, 15, 20]) s.heap H locs → ∀ ls : Array Slot, lv_has ls 9 [(0, .ref (q 14)), (3, .int x3), (4, .int x4), (6, .int x6)] → W p l e (headSpec wsX9_necklaceNumber rX9_necklaceNumber).room s m ([.ref (q 14), .int p1, .int p2, .int p3] : List Value).toArray below meth c H locs 0 0 (MQ below (gQ D (some (.int r0)) (w_14_15_20 q cI cJ cD Mh9 Mn Mm Mt Mw9) (gA q [14, 15, 20])) ([.ref (q 14), .int p1, .int p2, .int p3] : List Value).toArray s 0 0 (gA q [14, 15, 20])) (F0 m 104 ls []) := by
    intro Mh Mw x3 x4 x6 hf H locs hP hS ls hl
    unfold fX9_necklaceNumber_J104 at hf
    refine lv_iconst (v := (0 : Int32)) hx hb dX9_necklaceNumber_104 (by decide) ?_
    refine lv_istore (lv' := [(7, .int (0 : Int32)), (0, .ref (q 14)), (3, .int x3), (4, .int x4), (6, .int x6)]) hx hb dX9_necklaceNumber_105 hl (by decide) rfl (fun ls hl => ?_)
    refine lv_iconst (v := (0 : Int32)) hx hb dX9_necklaceNumber_107 (by decide) ?_
    refine lv_istore (lv' := [(8, .int (0 : Int32)), (7, .int (0 : Int32)), (0, .ref (q 14)), (3, .int x3), (4, .int x4), (6, .int x6)]) hx hb dX9_necklaceNumber_108 hl (by decide) rfl (fun ls hl => ?_)
    exact K110 N Mh Mw x3 x4 x6 (0 : Int32) (0 : Int32) hf _ _ hP hS _ (lv_sub hl [2, 3, 4, 5, 1, 0] rfl)
  have K69 : ∀ (n69 : Nat) (Mh : Int32) (Mw : (Nat → Int32)) (x1 : Int32) (x3 : Int32) (x4 : Int32) (x5 : Int32) (x6 : Int32) (x7 : Int32), fX9_necklaceNumber_H69 N Mn Mm Mt n69 Mh Mw x1 x3 x4 x5 x6 x7 = some (r0, Mh9, Mw9) → ∀ (H : Heap) (locs : List Loc), va_P D vwCl (w_14_15_20 q cI cJ cD Mh Mn Mm Mt Mw) H → va_S (gA q [14, 15, 20]) s.heap H locs → ∀ ls : Array Slot, lv_has ls 9 [(0, .ref (q 14)), (1, .int x1), (3, .int x3), (4, .int x4), (5, .int x5), (6, .int x6), (7, .int x7)] → W p l e (headSpec wsX9_necklaceNumber rX9_necklaceNumber).room s m ([.ref (q 14), .int p1, .int p2, .int p3] : List Value).toArray below meth c H locs 0 0 (MQ below (gQ D (some (.int r0)) (w_14_15_20 q cI cJ cD Mh9 Mn Mm Mt Mw9) (gA q [14, 15, 20])) ([.ref (q 14), .int p1, .int p2, .int p3] : List Value).toArray s 0 0 (gA q [14, 15, 20])) (F0 m 69 ls []) := by
    intro n69
    induction n69 with
    | zero =>
      intro Mh Mw x1 x3 x4 x5 x6 x7 hf
      exact nomatch (show (none : Option (Int32 × Int32 × (Nat → Int32))) = some (r0, Mh9, Mw9) from hf)
    | succ n69 ih69 =>
      intro Mh Mw x1 x3 x4 x5 x6 x7 hf H locs hP hS ls hl
      have hf : fX9_necklaceNumber_B69 N Mn Mm Mt (fX9_necklaceNumber_H69 N Mn Mm Mt n69) Mh Mw x1 x3 x4 x5 x6 x7 = some (r0, Mh9, Mw9) := hf
      unfold fX9_necklaceNumber_B69 at hf
      refine lv_iload hx hb dX9_necklaceNumber_69 (lv_at hl 6 rfl) ?_
      refine lv_iload hx hb dX9_necklaceNumber_71 (lv_at hl 3 rfl) ?_
      refine lv_icmp_ge (tgt := 104) hx hb dX9_necklaceNumber_73 (by decide) (fun c_3 => ?_) (fun c_3 => ?_)
      · have hf := (if_pos c_3).symm.trans hf
        exact J104 Mh Mw x3 x4 x6 hf _ _ hP hS _ (lv_sub hl [0, 2, 3, 5] rfl)
      · have hf := (if_neg c_3).symm.trans hf
        refine lv_iload_n hx hb dX9_necklaceNumber_76 rfl (lv_at hl 2 rfl) ?_
        refine lv_iload hx hb dX9_necklaceNumber_77 (lv_at hl 5 rfl) ?_
        refine lv_imul hx hb dX9_necklaceNumber_79 ?_
        refine lv_aload_n hx hb dX9_necklaceNumber_80 rfl (lv_at hl 0 rfl) ?_
        refine va_get (D := D) (ci := 7) (v := .ref (q 15)) (C := RX9) (T := TX9) (N := 11) hx hb hts huX9 hown hE.1 hP 0 rfl rfl 2 (by decide) hk7 (fun _ h9 => h9) rfl dX9_necklaceNumber_81 ?_
        refine lv_iload_n hx hb dX9_necklaceNumber_84 rfl (lv_at hl 1 rfl) ?_
        refine lv_iload hx hb dX9_necklaceNumber_85 (lv_at hl 6 rfl) ?_
        refine lv_iload hx hb dX9_necklaceNumber_87 (lv_at hl 4 rfl) ?_
        refine lv_iadd hx hb dX9_necklaceNumber_89 ?_
        refine lv_iload hx hb dX9_necklaceNumber_90 (lv_at hl 3 rfl) ?_
        obtain ⟨g_4, hf⟩ := gd_some hf
        refine lv_irem hx hb dX9_necklaceNumber_92 (nz_ne g_4) ?_
        refine lv_iadd hx hb dX9_necklaceNumber_93 ?_
        obtain ⟨g_5, hf⟩ := gd_some hf
        refine va_iald hx hb hE.1 hP 1 0 rfl rfl (inb_in g_5) dX9_necklaceNumber_94 ?_
        refine lv_iadd hx hb dX9_necklaceNumber_95 ?_
        refine lv_istore (lv' := [(6, .int ((x3 * x6) + (Mt ((x1 + ((x7 + x5) - (x7 + x5) / x4 * x4))).toNatClampNeg))), (0, .ref (q 14)), (1, .int x1), (3, .int x3), (4, .int x4), (5, .int x5), (7, .int x7)]) hx hb dX9_necklaceNumber_96 hl (by decide) rfl (fun ls hl => ?_)
        refine lv_iinc (v := (x7 + 1)) (lv' := [(7, .int (x7 + 1)), (6, .int ((x3 * x6) + (Mt ((x1 + ((x7 + x5) - (x7 + x5) / x4 * x4))).toNatClampNeg))), (0, .ref (q 14)), (1, .int x1), (3, .int x3), (4, .int x4), (5, .int x5)]) hx hb dX9_necklaceNumber_98 hl (k := 6) rfl rfl (by decide) rfl (fun ls hl => ?_)
        refine lv_goto (tgt := 69) hx hb dX9_necklaceNumber_101 (by decide) ?_
        exact ih69 Mh Mw x1 x3 x4 x5 ((x3 * x6) + (Mt ((x1 + ((x7 + x5) - (x7 + x5) / x4 * x4))).toNatClampNeg)) (x7 + 1) hf _ _ hP hS _ (lv_sub hl [2, 3, 4, 5, 6, 1, 0] rfl)
  have J42 : ∀ (Mh : Int32) (Mw : (Nat → Int32)) (x1 : Int32) (x2 : Int32) (x3 : Int32) (y1 : Int32), fX9_necklaceNumber_J42 N Mn Mm Mt Mh Mw x1 x2 x3 y1 = some (r0, Mh9, Mw9) → ∀ (H : Heap) (locs : List Loc), va_P D vwCl (w_14_15_20 q cI cJ cD Mh Mn Mm Mt Mw) H → va_S (gA q [14, 15, 20]) s.heap H locs → ∀ ls : Array Slot, lv_has ls 9 [(0, .ref (q 14)), (1, .int x1), (2, .int x2), (3, .int x3)] → W p l e (headSpec wsX9_necklaceNumber rX9_necklaceNumber).room s m ([.ref (q 14), .int p1, .int p2, .int p3] : List Value).toArray below meth c H locs 0 0 (MQ below (gQ D (some (.int r0)) (w_14_15_20 q cI cJ cD Mh9 Mn Mm Mt Mw9) (gA q [14, 15, 20])) ([.ref (q 14), .int p1, .int p2, .int p3] : List Value).toArray s 0 0 (gA q [14, 15, 20])) (F0 m 42 ls [.int y1, .ref (q 14)]) := by
    intro Mh Mw x1 x2 x3 y1 hf H locs hP hS ls hl
    unfold fX9_necklaceNumber_J42 at hf
    obtain ⟨⟨r42, Mh42⟩, hc, hf⟩ := bn_some hf
    try dsimp only at hf
    refine g_call0 (ws' := (w_14_15_20 q cI cJ cD Mh42 Mn Mm Mt Mw)) (st1 := [.int r42]) hq [14, 15, 20] [14] [.inl 0, .inr 1, .inr 2] (va_runV (As := [.int y1]) (rest := []) ⟨hx, hb, hml, hown, hts⟩ (kX9_goesWell l D cI cJ cD q hq N Mh Mn Mm y1 r42 Mh42 hc) (cwV 1 hts gX9_necklaceNumber_X9_goesWell rfl rfl rfl (by decide +kernel) ⟨(Nat.le_of_ble_eq_true rfl), (Nat.le_of_ble_eq_true rfl)⟩) ⟨gP_blind, va_recv hE.1 hP (ci := 7) (q0 := 0) rfl rfl, fun U hU hW => ⟨rfl, by rw [hU]; exact hP.sub (ws' := (w_14 q cI cJ cD Mh Mn Mm)) [0] rfl, gEv.warm hW hE⟩⟩ rfl rfl hl.1 rfl (lv_room (Nat.le_of_ble_eq_true rfl)) dX9_necklaceNumber_42 ⟨Nat.zero_le _, Nat.zero_le _⟩) hP hS (gSub rfl) rfl rfl rfl rfl rfl (fun H locs hP hS => ?_)
    refine lv_if_ne (tgt := 50) hx hb dX9_necklaceNumber_45 (by decide) (fun c_6 => ?_) (fun c_6 => ?_)
    · have hf := (if_neg c_6).symm.trans hf
      refine lv_iload_n hx hb dX9_necklaceNumber_50 rfl (lv_at hl 2 rfl) ?_
      refine lv_iload_n hx hb dX9_necklaceNumber_51 rfl (lv_at hl 1 rfl) ?_
      refine lv_isub hx hb dX9_necklaceNumber_52 ?_
      refine lv_istore (lv' := [(4, .int (x2 - x1)), (0, .ref (q 14)), (1, .int x1), (2, .int x2), (3, .int x3)]) hx hb dX9_necklaceNumber_53 hl (by decide) rfl (fun ls hl => ?_)
      refine lv_aload_n hx hb dX9_necklaceNumber_55 rfl (lv_at hl 1 rfl) ?_
      refine lv_iload_n hx hb dX9_necklaceNumber_56 rfl (lv_at hl 2 rfl) ?_
      refine lv_iload_n hx hb dX9_necklaceNumber_57 rfl (lv_at hl 3 rfl) ?_
      obtain ⟨r58, hc, hf⟩ := bn_some hf
      try dsimp only at hf
      refine g_call0 (ws' := (w_14_15_20 q cI cJ cD Mh42 Mn Mm Mt Mw)) (st1 := [.int r58]) hq [14, 15, 20] [14, 15] [.inl 0, .inl 1, .inr 2] (va_runV (As := [.int x1, .int x2]) (rest := []) ⟨hx, hb, hml, hown, hts⟩ (kX9_least l D cI cJ cD q hq N Mh42 Mn Mm Mt x1 x2 r58 hc) (cwV 2 hts gX9_necklaceNumber_X9_least rfl rfl rfl (by decide +kernel) ⟨(Nat.le_of_ble_eq_true rfl), (Nat.le_of_ble_eq_true rfl)⟩) ⟨gP_blind, va_recv hE.1 hP (ci := 7) (q0 := 0) rfl rfl, fun U hU hW => ⟨rfl, by rw [hU]; exact hP.sub (ws' := (w_14_15 q cI cJ cD Mh42 Mn Mm Mt)) [0, 1] rfl, gEv.warm hW hE⟩⟩ rfl rfl hl.1 rfl (lv_room (Nat.le_of_ble_eq_true rfl)) dX9_necklaceNumber_58 ⟨Nat.zero_le _, Nat.zero_le _⟩) hP hS (gSub rfl) rfl rfl rfl rfl rfl (fun H locs hP hS => ?_)
      refine lv_istore (lv' := [(5, .int r58), (4, .int (x2 - x1)), (0, .ref (q 14)), (1, .int x1), (2, .int x2), (3, .int x3)]) hx hb dX9_necklaceNumber_61 hl (by decide) rfl (fun ls hl => ?_)
      refine lv_iconst (v := (0 : Int32)) hx hb dX9_necklaceNumber_63 (by decide) ?_
      refine lv_istore (lv' := [(6, .int (0 : Int32)), (5, .int r58), (4, .int (x2 - x1)), (0, .ref (q 14)), (1, .int x1), (2, .int x2), (3, .int x3)]) hx hb dX9_necklaceNumber_64 hl (by decide) rfl (fun ls hl => ?_)
      refine lv_iconst (v := (0 : Int32)) hx hb dX9_necklaceNumber_66 (by decide) ?_
      refine lv_istore (lv' := [(7, .int (0 : Int32)), (6, .int (0 : Int32)), (5, .int r58), (4, .int (x2 - x1)), (0, .ref (q 14)), (1, .int x1), (2, .int x2), (3, .int x3)]) hx hb dX9_necklaceNumber_67 hl (by decide) rfl (fun ls hl => ?_)
      exact K69 N Mh42 Mw x1 x3 (x2 - x1) r58 (0 : Int32) (0 : Int32) hf _ _ hP hS _ (lv_sub hl [4, 5, 7, 3, 2, 1, 0] rfl)
    · have hf := (if_pos c_6).symm.trans hf
      refine lv_iconst (v := (0 : Int32)) hx hb dX9_necklaceNumber_48 (by decide) ?_
      cases hf
      exact W.iret hx hb hr (fun t ht hW => ⟨⟨rfl, by rw [ht]; exact hP⟩, hS.F ht⟩) hS.2.2 dX9_necklaceNumber_49
  unfold fX9_necklaceNumber at hf
  refine lv_aload_n hx hb dX9_necklaceNumber_0 rfl (lv_at hl 0 rfl) ?_
  refine lv_aload_n hx hb dX9_necklaceNumber_1 rfl (lv_at hl 0 rfl) ?_
  refine lv_iload_n hx hb dX9_necklaceNumber_2 rfl (lv_at hl 1 rfl) ?_
  refine lv_iload_n hx hb dX9_necklaceNumber_3 rfl (lv_at hl 2 rfl) ?_
  obtain ⟨r4, hc, hf⟩ := bn_some hf
  try dsimp only at hf
  refine g_call0 (ws' := (w_14_15_20 q cI cJ cD Mh Mn Mm Mt Mw)) (st1 := [.int r4, .ref (q 14)]) hq [14, 15, 20] [14] [.inl 0, .inr 1, .inr 2] (va_runV (As := [.int p1, .int p2]) (rest := [.ref (q 14)]) ⟨hx, hb, hml, hown, hts⟩ (kX9_isPart l D cI cJ cD q hq N Mh Mn Mm p1 p2 r4 hc) (cwV 2 hts gX9_necklaceNumber_X9_isPart rfl rfl rfl (by decide +kernel) ⟨(Nat.le_of_ble_eq_true rfl), (Nat.le_of_ble_eq_true rfl)⟩) ⟨gP_blind, va_recv hE.1 hP (ci := 7) (q0 := 0) rfl rfl, fun U hU hW => ⟨rfl, by rw [hU]; exact hP.sub (ws' := (w_14 q cI cJ cD Mh Mn Mm)) [0] rfl, gEv.warm hW hE⟩⟩ rfl rfl hl.1 rfl (lv_room (Nat.le_of_ble_eq_true rfl)) dX9_necklaceNumber_4 ⟨Nat.zero_le _, Nat.zero_le _⟩) hP hS (gSub rfl) rfl rfl rfl rfl rfl (fun H locs hP hS => ?_)
  refine lv_if_ne (tgt := 14) hx hb dX9_necklaceNumber_7 (by decide) (fun c_7 => ?_) (fun c_7 => ?_)
  · have hf := (if_neg c_7).symm.trans hf
    refine lv_iload_n hx hb dX9_necklaceNumber_14 rfl (lv_at hl 3 rfl) ?_
    refine lv_iconst (v := (1 : Int32)) hx hb dX9_necklaceNumber_15 (by decide) ?_
    refine lv_iconst (v := (4 : Int32)) hx hb dX9_necklaceNumber_16 (by decide) ?_
    obtain ⟨r17, hc, hf⟩ := bn_some hf
    try dsimp only at hf
    refine g_call0 (ws' := (w_14_15_20 q cI cJ cD Mh Mn Mm Mt Mw)) (st1 := [.int r17, .ref (q 14)]) hq [14, 15, 20] [] [.inr 0, .inr 1, .inr 2] (va_runS (As := [.int p3, .int (1 : Int32), .int (4 : Int32)]) (rest := [.ref (q 14)]) ⟨hx, hb, hml, hown, hts⟩ (kX9_in l D cI cJ cD q hq N p3 (1 : Int32) (4 : Int32) r17 hc) (va_cwS 3 hts gX9_necklaceNumber_X9_in rfl rfl rfl (by decide +kernel) ⟨(Nat.le_of_ble_eq_true rfl), (Nat.le_of_ble_eq_true rfl)⟩) ⟨gP_blind, fun U hU hW => ⟨rfl, by rw [hU]; exact hP.sub (ws' := (w_0none q cI cJ cD)) [] rfl, gEv.warm hW hE⟩⟩ rfl rfl hl.1 rfl (lv_room (Nat.le_of_ble_eq_true rfl)) dX9_necklaceNumber_17 ⟨Nat.zero_le _, Nat.zero_le _⟩) hP hS (gSub rfl) rfl rfl rfl rfl rfl (fun H locs hP hS => ?_)
    refine lv_if_ne (tgt := 27) hx hb dX9_necklaceNumber_20 (by decide) (fun c_8 => ?_) (fun c_8 => ?_)
    · have hf := (if_neg c_8).symm.trans hf
      refine lv_aload_n hx hb dX9_necklaceNumber_27 rfl (lv_at hl 0 rfl) ?_
      refine lv_iload_n hx hb dX9_necklaceNumber_28 rfl (lv_at hl 1 rfl) ?_
      refine lv_iload_n hx hb dX9_necklaceNumber_29 rfl (lv_at hl 2 rfl) ?_
      refine lv_iload_n hx hb dX9_necklaceNumber_30 rfl (lv_at hl 3 rfl) ?_
      obtain ⟨r31, hc, hf⟩ := bn_some hf
      try dsimp only at hf
      refine g_call0 (ws' := (w_14_15_20 q cI cJ cD Mh Mn Mm Mt Mw)) (st1 := [.int r31, .ref (q 14)]) hq [14, 15, 20] [14, 15] [.inl 0, .inl 1, .inr 2] (va_runV (As := [.int p1, .int p2, .int p3]) (rest := [.ref (q 14)]) ⟨hx, hb, hml, hown, hts⟩ (kX9_isOf l D cI cJ cD q hq N Mh Mn Mm Mt p1 p2 p3 r31 hc) (cwV 3 hts gX9_necklaceNumber_X9_isOf rfl rfl rfl (by decide +kernel) ⟨(Nat.le_of_ble_eq_true rfl), (Nat.le_of_ble_eq_true rfl)⟩) ⟨gP_blind, va_recv hE.1 hP (ci := 7) (q0 := 0) rfl rfl, fun U hU hW => ⟨rfl, by rw [hU]; exact hP.sub (ws' := (w_14_15 q cI cJ cD Mh Mn Mm Mt)) [0, 1] rfl, gEv.warm hW hE⟩⟩ rfl rfl hl.1 rfl (lv_room (Nat.le_of_ble_eq_true rfl)) dX9_necklaceNumber_31 ⟨Nat.zero_le _, Nat.zero_le _⟩) hP hS (gSub rfl) rfl rfl rfl rfl rfl (fun H locs hP hS => ?_)
      refine lv_if_eq (tgt := 41) hx hb dX9_necklaceNumber_34 (by decide) (fun c_9 => ?_) (fun c_9 => ?_)
      · have hf := (if_pos c_9).symm.trans hf
        refine lv_iconst (v := (3 : Int32)) hx hb dX9_necklaceNumber_41 (by decide) ?_
        exact J42 Mh Mw p1 p2 p3 (3 : Int32) hf _ _ hP hS _ (lv_sub hl [0, 1, 2, 3] rfl)
      · have hf := (if_neg c_9).symm.trans hf
        refine lv_iconst (v := (0 : Int32)) hx hb dX9_necklaceNumber_37 (by decide) ?_
        refine lv_goto (tgt := 42) hx hb dX9_necklaceNumber_38 (by decide) ?_
        exact J42 Mh Mw p1 p2 p3 (0 : Int32) hf _ _ hP hS _ (lv_sub hl [0, 1, 2, 3] rfl)
    · have hf := (if_pos c_8).symm.trans hf
      refine lv_iconst (v := (2 : Int32)) hx hb dX9_necklaceNumber_23 (by decide) ?_
      refine lv_goto (tgt := 42) hx hb dX9_necklaceNumber_24 (by decide) ?_
      exact J42 Mh Mw p1 p2 p3 (2 : Int32) hf _ _ hP hS _ (lv_sub hl [0, 1, 2, 3] rfl)
  · have hf := (if_pos c_7).symm.trans hf
    refine lv_iconst (v := (1 : Int32)) hx hb dX9_necklaceNumber_10 (by decide) ?_
    refine lv_goto (tgt := 42) hx hb dX9_necklaceNumber_11 (by decide) ?_
    exact J42 Mh Mw p1 p2 p3 (1 : Int32) hf _ _ hP hS _ (lv_sub hl [0, 1, 2, 3] rfl)
