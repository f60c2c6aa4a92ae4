set_option maxHeartbeats 4000000 in
set_option maxRecDepth 100000 in
theorem kL_append (l : Launch) (hlt : l.stackTraces = false) (D : va_G) (cI cJ cD : ClassId) (sa : Nat → Nat) (q : Nat → Nat) (hq : gInj q) (N : Nat) (Tn : Int32) (Ta : (Nat → Int32)) (Oa : (Nat → Int64)) (p1 : Int32) (r0 : Int32) (Tn9 : Int32) (Ta9 : (Nat → Int32)) (Oa9 : (Nat → Int64)) (hf : fL_append N Tn Ta Oa p1 = some (r0, Tn9, Ta9, Oa9)) : Met l yL_append wsL_append rL_appendx (gPx D cI cJ cD sa (gA q [0, 1, 2, 23]) [.ref (q 0), .int p1, .ref (q 23)] (w_0_1_2_23 q cI cJ cD Tn Ta Oa)) (gQ D (some (.int r0)) (w_0_1_2_23 q cI cJ cD Tn9 Ta9 Oa9) (gA q [0, 1, 2, 23])) 1 6 (gA q [0, 1, 2, 23]) := by
  refine g_ofWH (cc := cL_append) (maxL := 4) (ret := (some .int)) (hh := [(0, 9, 12, 13), (0, 9, 15, 15)]) (by decide +kernel) rfl ?_
  intro p e s m args below meth c s₁ B hml hv
  obtain ⟨rfl, hP, hE, hXe⟩ := hv
  have hx := B.exec
  have hb := B.bytes
  have hr := B.returns
  have hts := atoms_spec (ws := wsL_append) B.pre
  have hown : s.vm.findClass RL = some m.cls := findClass_of_methodNamed B.named
  have hlocks := B.notSynchronized
  have htab : c.exceptionTable.toList = [⟨0, 9, 12, 13⟩, ⟨0, 9, 15, 15⟩] := vx_table (x := yL_append) B (hts _ List.mem_cons_self)
  have hS : va_S (gA q [0, 1, 2, 23]) s.heap s.heap [] := va_S.rf
  have hl := lv_entry ([.ref (q 0), .int p1, .ref (q 23)]) (n := 4) (Nat.le_of_ble_eq_true rfl)
  rw [lg_entry_eq]
  generalize (lg_sl ([.ref (q 0), .int p1, .ref (q 23)]) ++ List.replicate (4 - (lg_sl ([.ref (q 0), .int p1, .ref (q 23)])).length) Slot.unset).toArray = ls at hl ⊢
  have hl : lv_has ls 4 [(0, .ref (q 0)), (1, .int p1), (2, .ref (q 23))] := hl
  have hDm : ∀ (z0 : Int32) (z1 : (Nat → Int32)) (z2 : (Nat → Int64)), va_D (gA q [0, 1, 2, 23]) (w_0_1_2_23 q cI cJ cD z0 z1 z2) := fun _ _ _ => gD_of hq [0, 1, 2, 23] rfl rfl rfl (fun k h => ⟨k, h, rfl⟩)
  unfold fL_append at hf
  refine lv_aload_n hx hb dL_append_0 rfl (lv_at hl 2 rfl) ?_
  refine lv_iconst (v := (0 : Int32)) hx hb dL_append_1 (by decide) ?_
  refine lv_aload_n hx hb dL_append_2 rfl (lv_at hl 0 rfl) ?_
  refine lv_iload_n hx hb dL_append_3 rfl (lv_at hl 1 rfl) ?_
  rcases bx_some hf with ⟨⟨e4, Tn4, Ta4⟩, hc, hf⟩ | ⟨⟨r4, Tn4, Ta4⟩, hc, hf⟩
  · try dsimp only at hf
    refine g_callX (ws' := (w_0_1_2_23 q cI cJ cD Tn4 Ta4 Oa)) hq [0, 1, 2, 23] [0, 1, 2] [.inl 0, .inl 1, .inl 2, .inr 3] (vx_runV (As := [.int p1]) (rest := [.int (0 : Int32), .ref (q 23)]) ⟨hx, hb, hml, hown, hts⟩ (kX8_appendx l hlt D cI cJ cD sa q hq N Tn Ta p1 e4 Tn4 Ta4 hc) (cwV 1 hts gL_append_X8_append rfl rfl rfl (by decide +kernel) ⟨(Nat.le_of_ble_eq_true rfl), (Nat.le_of_ble_eq_true rfl)⟩) ⟨gPx_blind, va_recv hE.1 hP (ci := 6) (q0 := 0) rfl rfl, fun U hU hW => ⟨rfl, by rw [hU]; exact hP.sub (ws' := (w_0_1_2 q cI cJ cD Tn Ta)) [0, 1, 2] rfl, gEv.warm hW hE, gXe.go hW hS (gMono rfl) hXe hU⟩⟩ rfl rfl hl.1 rfl (lv_room (Nat.le_of_ble_eq_true rfl)) dL_append_4 ⟨(Nat.le_of_ble_eq_true rfl), (Nat.le_of_ble_eq_true rfl)⟩) hP hS (gSub rfl) rfl rfl rfl rfl (fun ce q9 H locs hP hS hce hcv hcl => ?_)
    by_cases c_1 : e4 = 1
    · have hf := (if_pos c_1).symm.trans hf
      subst c_1
      refine vx_catch (E := "java/lang/IllegalArgumentException") (name := "java/lang/IllegalArgumentException") hown [] ⟨0, 9, 12, 13⟩ [⟨0, 9, 15, 15⟩] htab (fun _ h => nomatch h) rfl (by decide) (hts (.classLink RL 13 "java/lang/IllegalArgumentException") (by decide +kernel)) (va_Nw.use rfl (hXe.1.2.1 "java/lang/IllegalArgumentException" (by decide +kernel))) hce hcv hcl ?_
      refine lv_astore_n (lv' := [(3, .ref q9), (0, .ref (q 0)), (1, .int p1), (2, .ref (q 23))]) hx hb dL_append_12 rfl hl (by decide) rfl (fun ls hl => ?_)
      refine lv_iconst (v := (1 : Int32)) hx hb dL_append_13 (by decide) ?_
      cases hf
      refine W.widen (k := 1) (n := 6) (Nat.le_of_ble_eq_true rfl) (Nat.le_of_ble_eq_true rfl) ?_
      exact W.iret hx hb hr (fun t ht hW => ⟨⟨rfl, by rw [ht]; exact hP⟩, hS.F ht⟩) hS.2.2 dL_append_14
    have hf := (if_neg c_1).symm.trans hf
    by_cases c_2 : e4 = 2
    · have hf := (if_pos c_2).symm.trans hf
      subst c_2
      refine vx_catch (E := "java/lang/IllegalStateException") (name := "java/lang/IllegalStateException") hown [⟨0, 9, 12, 13⟩] ⟨0, 9, 15, 15⟩ [] htab (List.forall_mem_cons.mpr ⟨Or.inr ⟨by decide, "java/lang/IllegalArgumentException", hts (.classLink RL 13 "java/lang/IllegalArgumentException") (by decide +kernel), hXe.1.2.2.1 "java/lang/IllegalStateException" (by decide +kernel) "java/lang/IllegalArgumentException" (by decide +kernel) (by decide +kernel)⟩, fun _ h => nomatch h⟩) rfl (by decide) (hts (.classLink RL 15 "java/lang/IllegalStateException") (by decide +kernel)) (va_Nw.use rfl (hXe.1.2.1 "java/lang/IllegalStateException" (by decide +kernel))) hce hcv hcl ?_
      refine lv_astore_n (lv' := [(3, .ref q9), (0, .ref (q 0)), (1, .int p1), (2, .ref (q 23))]) hx hb dL_append_15 rfl hl (by decide) rfl (fun ls hl => ?_)
      refine lv_iconst (v := (2 : Int32)) hx hb dL_append_16 (by decide) ?_
      cases hf
      refine W.widen (k := 1) (n := 6) (Nat.le_of_ble_eq_true rfl) (Nat.le_of_ble_eq_true rfl) ?_
      exact W.iret hx hb hr (fun t ht hW => ⟨⟨rfl, by rw [ht]; exact hP⟩, hS.F ht⟩) hS.2.2 dL_append_17
    have hf := (if_neg c_2).symm.trans hf
    exact nomatch hf
  try dsimp only at hf
  refine g_call0 (ws' := (w_0_1_2_23 q cI cJ cD Tn4 Ta4 Oa)) (st1 := [.int r4, .int (0 : Int32), .ref (q 23)]) hq [0, 1, 2, 23] [0, 1, 2] [.inl 0, .inl 1, .inl 2, .inr 3] (va_runV (As := [.int p1]) (rest := [.int (0 : Int32), .ref (q 23)]) ⟨hx, hb, hml, hown, hts⟩ (kX8_append l D cI cJ cD q hq N Tn Ta p1 r4 Tn4 Ta4 hc) (cwV 1 hts gL_append_X8_append rfl rfl rfl (by decide +kernel) ⟨(Nat.le_of_ble_eq_true rfl), (Nat.le_of_ble_eq_true rfl)⟩) ⟨gP_blind, va_recv hE.1 hP (ci := 6) (q0 := 0) rfl rfl, fun U hU hW => ⟨rfl, by rw [hU]; exact hP.sub (ws' := (w_0_1_2 q cI cJ cD Tn Ta)) [0, 1, 2] rfl, gEv.warm hW hE⟩⟩ rfl rfl hl.1 rfl (lv_room (Nat.le_of_ble_eq_true rfl)) dL_append_4 ⟨Nat.zero_le _, Nat.zero_le _⟩) hP hS (gSub rfl) rfl rfl rfl rfl rfl (fun H locs hP hS => ?_)
  refine lv_i2l (v := (r4).toInt64) hx hb dL_append_7 rfl ?_
  obtain ⟨g_3, hf⟩ := gd_some hf
  refine va_last hx hb hE.1 hP (hDm Tn4 Ta4 Oa) hS 3 1 rfl rfl (inb_in g_3) dL_append_8 (fun H locs hP _ hS => ?_)
  have hP : va_P D vwCl (w_0_1_2_23 q cI cJ cD Tn4 Ta4 (vp_updL Oa ((0 : Int32)).toNatClampNeg ((r4).toInt64))) H := hP
  refine lv_goto (tgt := 18) hx hb dL_append_9 (by decide) ?_
  refine lv_iconst (v := (0 : Int32)) hx hb dL_append_18 (by decide) ?_
  cases hf
  refine W.widen (k := 1) (n := 6) (Nat.le_of_ble_eq_true rfl) (Nat.le_of_ble_eq_true rfl) ?_
  exact W.iret hx hb hr (fun t ht hW => ⟨⟨rfl, by rw [ht]; exact hP⟩, hS.F ht⟩) hS.2.2 dL_append_19
set_option maxHeartbeats 4000000 in
set_option maxRecDepth 100000 in
theorem kL_insert (l : Launch) (hlt : l.stackTraces = false) (D : va_G) (cI cJ cD : ClassId) (sa : Nat → Nat) (q : Nat → Nat) (hq : gInj q) (N : Nat) (Tn : Int32) (Ta : (Nat → Int32)) (Oa : (Nat → Int64)) (p1 : Int32) (p2 : Int32) (r0 : Int32) (Tn9 : Int32) (Ta9 : (Nat → Int32)) (Oa9 : (Nat → Int64)) (hf : fL_insert N Tn Ta Oa p1 p2 = some (r0, Tn9, Ta9, Oa9)) : Met l yL_insert wsL_insert rL_insertx (gPx D cI cJ cD sa (gA q [0, 1, 2, 23]) [.ref (q 0), .int p1, .int p2, .ref (q 23)] (w_0_1_2_23 q cI cJ cD Tn Ta Oa)) (gQ D (some (.int r0)) (w_0_1_2_23 q cI cJ cD Tn9 Ta9 Oa9) (gA q [0, 1, 2, 23])) 1 6 (gA q [0, 1, 2, 23]) := by
  refine g_ofWH (cc := cL_insert) (maxL := 5) (ret := (some .int)) (hh := [(0, 10, 13, 21), (0, 10, 17, 13), (0, 10, 21, 15)]) (by decide +kernel) rfl ?_
  intro p e s m args below meth c s₁ B hml hv
  obtain ⟨rfl, hP, hE, hXe⟩ := hv
  have hx := B.exec
  have hb := B.bytes
  have hr := B.returns
  have hts := atoms_spec (ws := wsL_insert) B.pre
  have hown : s.vm.findClass RL = some m.cls := findClass_of_methodNamed B.named
  have hlocks := B.notSynchronized
  have htab : c.exceptionTable.toList = [⟨0, 10, 13, 21⟩, ⟨0, 10, 17, 13⟩, ⟨0, 10, 21, 15⟩] := vx_table (x := yL_insert) B (hts _ List.mem_cons_self)
  have hS : va_S (gA q [0, 1, 2, 23]) s.heap s.heap [] := va_S.rf
  have hl := lv_entry ([.ref (q 0), .int p1, .int p2, .ref (q 23)]) (n := 5) (Nat.le_of_ble_eq_true rfl)
  rw [lg_entry_eq]
  generalize (lg_sl ([.ref (q 0), .int p1, .int p2, .ref (q 23)]) ++ List.replicate (5 - (lg_sl ([.ref (q 0), .int p1, .int p2, .ref (q 23)])).length) Slot.unset).toArray = ls at hl ⊢
  have hl : lv_has ls 5 [(0, .ref (q 0)), (1, .int p1), (2, .int p2), (3, .ref (q 23))] := hl
  have hDm : ∀ (z0 : Int32) (z1 : (Nat → Int32)) (z2 : (Nat → Int64)), va_D (gA q [0, 1, 2, 23]) (w_0_1_2_23 q cI cJ cD z0 z1 z2) := fun _ _ _ => gD_of hq [0, 1, 2, 23] rfl rfl rfl (fun k h => ⟨k, h, rfl⟩)
  unfold fL_insert at hf
  refine lv_aload_n hx hb dL_insert_0 rfl (lv_at hl 3 rfl) ?_
  refine lv_iconst (v := (0 : Int32)) hx hb dL_insert_1 (by decide) ?_
  refine lv_aload_n hx hb dL_insert_2 rfl (lv_at hl 0 rfl) ?_
  refine lv_iload_n hx hb dL_insert_3 rfl (lv_at hl 1 rfl) ?_
  refine lv_iload_n hx hb dL_insert_4 rfl (lv_at hl 2 rfl) ?_
  rcases bx_some hf with ⟨⟨e5, Tn5, Ta5⟩, hc, hf⟩ | ⟨⟨r5, Tn5, Ta5⟩, hc, hf⟩
  · try dsimp only at hf
    refine g_callX (ws' := (w_0_1_2_23 q cI cJ cD Tn5 Ta5 Oa)) hq [0, 1, 2, 23] [0, 1, 2] [.inl 0, .inl 1, .inl 2, .inr 3] (vx_runV (As := [.int p1, .int p2]) (rest := [.int (0 : Int32), .ref (q 23)]) ⟨hx, hb, hml, hown, hts⟩ (kX8_insertx l hlt D cI cJ cD sa q hq N Tn Ta p1 p2 e5 Tn5 Ta5 hc) (cwV 2 hts gL_insert_X8_insert rfl rfl rfl (by decide +kernel) ⟨(Nat.le_of_ble_eq_true rfl), (Nat.le_of_ble_eq_true rfl)⟩) ⟨gPx_blind, va_recv hE.1 hP (ci := 6) (q0 := 0) rfl rfl, fun U hU hW => ⟨rfl, by rw [hU]; exact hP.sub (ws' := (w_0_1_2 q cI cJ cD Tn Ta)) [0, 1, 2] rfl, gEv.warm hW hE, gXe.go hW hS (gMono rfl) hXe hU⟩⟩ rfl rfl hl.1 rfl (lv_room (Nat.le_of_ble_eq_true rfl)) dL_insert_5 ⟨(Nat.le_of_ble_eq_true rfl), (Nat.le_of_ble_eq_true rfl)⟩) hP hS (gSub rfl) rfl rfl rfl rfl (fun ce q9 H locs hP hS hce hcv hcl => ?_)
    by_cases c_1 : e5 = 0
    · have hf := (if_pos c_1).symm.trans hf
      subst c_1
      refine vx_catch (E := "java/lang/IndexOutOfBoundsException") (name := "java/lang/IndexOutOfBoundsException") hown [] ⟨0, 10, 13, 21⟩ [⟨0, 10, 17, 13⟩, ⟨0, 10, 21, 15⟩] htab (fun _ h => nomatch h) rfl (by decide) (hts (.classLink RL 21 "java/lang/IndexOutOfBoundsException") (by decide +kernel)) (va_Nw.use rfl (hXe.1.2.1 "java/lang/IndexOutOfBoundsException" (by decide +kernel))) hce hcv hcl ?_
      refine lv_astore (lv' := [(4, .ref q9), (0, .ref (q 0)), (1, .int p1), (2, .int p2), (3, .ref (q 23))]) hx hb dL_insert_13 hl (by decide) rfl (fun ls hl => ?_)
      refine lv_iconst (v := (1 : Int32)) hx hb dL_insert_15 (by decide) ?_
      cases hf
      refine W.widen (k := 1) (n := 6) (Nat.le_of_ble_eq_true rfl) (Nat.le_of_ble_eq_true rfl) ?_
      exact W.iret hx hb hr (fun t ht hW => ⟨⟨rfl, by rw [ht]; exact hP⟩, hS.F ht⟩) hS.2.2 dL_insert_16
    have hf := (if_neg c_1).symm.trans hf
    by_cases c_2 : e5 = 1
    · have hf := (if_pos c_2).symm.trans hf
      subst c_2
      refine vx_catch (E := "java/lang/IllegalArgumentException") (name := "java/lang/IllegalArgumentException") hown [⟨0, 10, 13, 21⟩] ⟨0, 10, 17, 13⟩ [⟨0, 10, 21, 15⟩] htab (List.forall_mem_cons.mpr ⟨Or.inr ⟨by decide, "java/lang/IndexOutOfBoundsException", hts (.classLink RL 21 "java/lang/IndexOutOfBoundsException") (by decide +kernel), hXe.1.2.2.1 "java/lang/IllegalArgumentException" (by decide +kernel) "java/lang/IndexOutOfBoundsException" (by decide +kernel) (by decide +kernel)⟩, fun _ h => nomatch h⟩) rfl (by decide) (hts (.classLink RL 13 "java/lang/IllegalArgumentException") (by decide +kernel)) (va_Nw.use rfl (hXe.1.2.1 "java/lang/IllegalArgumentException" (by decide +kernel))) hce hcv hcl ?_
      refine lv_astore (lv' := [(4, .ref q9), (0, .ref (q 0)), (1, .int p1), (2, .int p2), (3, .ref (q 23))]) hx hb dL_insert_17 hl (by decide) rfl (fun ls hl => ?_)
      refine lv_iconst (v := (2 : Int32)) hx hb dL_insert_19 (by decide) ?_
      cases hf
      refine W.widen (k := 1) (n := 6) (Nat.le_of_ble_eq_true rfl) (Nat.le_of_ble_eq_true rfl) ?_
      exact W.iret hx hb hr (fun t ht hW => ⟨⟨rfl, by rw [ht]; exact hP⟩, hS.F ht⟩) hS.2.2 dL_insert_20
    have hf := (if_neg c_2).symm.trans hf
    by_cases c_3 : e5 = 2
    · have hf := (if_pos c_3).symm.trans hf
      subst c_3
      refine vx_catch (E := "java/lang/IllegalStateException") (name := "java/lang/IllegalStateException") hown [⟨0, 10, 13, 21⟩, ⟨0, 10, 17, 13⟩] ⟨0, 10, 21, 15⟩ [] htab (List.forall_mem_cons.mpr ⟨Or.inr ⟨by decide, "java/lang/IndexOutOfBoundsException", hts (.classLink RL 21 "java/lang/IndexOutOfBoundsException") (by decide +kernel), hXe.1.2.2.1 "java/lang/IllegalStateException" (by decide +kernel) "java/lang/IndexOutOfBoundsException" (by decide +kernel) (by decide +kernel)⟩, List.forall_mem_cons.mpr ⟨Or.inr ⟨by decide, "java/lang/IllegalArgumentException", hts (.classLink RL 13 "java/lang/IllegalArgumentException") (by decide +kernel), hXe.1.2.2.1 "java/lang/IllegalStateException" (by decide +kernel) "java/lang/IllegalArgumentException" (by decide +kernel) (by decide +kernel)⟩, fun _ h => nomatch h⟩⟩) rfl (by decide) (hts (.classLink RL 15 "java/lang/IllegalStateException") (by decide +kernel)) (va_Nw.use rfl (hXe.1.2.1 "java/lang/IllegalStateException" (by decide +kernel))) hce hcv hcl ?_
      refine lv_astore (lv' := [(4, .ref q9), (0, .ref (q 0)), (1, .int p1), (2, .int p2), (3, .ref (q 23))]) hx hb dL_insert_21 hl (by decide) rfl (fun ls hl => ?_)
      refine lv_iconst (v := (3 : Int32)) hx hb dL_insert_23 (by decide) ?_
      cases hf
      refine W.widen (k := 1) (n := 6) (Nat.le_of_ble_eq_true rfl) (Nat.le_of_ble_eq_true rfl) ?_
      exact W.iret hx hb hr (fun t ht hW => ⟨⟨rfl, by rw [ht]; exact hP⟩, hS.F ht⟩) hS.2.2 dL_insert_24
    have hf := (if_neg c_3).symm.trans hf
    exact nomatch hf
  try dsimp only at hf
  refine g_call0 (ws' := (w_0_1_2_23 q cI cJ cD Tn5 Ta5 Oa)) (st1 := [.int r5, .int (0 : Int32), .ref (q 23)]) hq [0, 1, 2, 23] [0, 1, 2] [.inl 0, .inl 1, .inl 2, .inr 3] (va_runV (As := [.int p1, .int p2]) (rest := [.int (0 : Int32), .ref (q 23)]) ⟨hx, hb, hml, hown, hts⟩ (kX8_insert l D cI cJ cD q hq N Tn Ta p1 p2 r5 Tn5 Ta5 hc) (cwV 2 hts gL_insert_X8_insert rfl rfl rfl (by decide +kernel) ⟨(Nat.le_of_ble_eq_true rfl), (Nat.le_of_ble_eq_true rfl)⟩) ⟨gP_blind, va_recv hE.1 hP (ci := 6) (q0 := 0) rfl rfl, fun U hU hW => ⟨rfl, by rw [hU]; exact hP.sub (ws' := (w_0_1_2 q cI cJ cD Tn Ta)) [0, 1, 2] rfl, gEv.warm hW hE⟩⟩ rfl rfl hl.1 rfl (lv_room (Nat.le_of_ble_eq_true rfl)) dL_insert_5 ⟨Nat.zero_le _, Nat.zero_le _⟩) hP hS (gSub rfl) rfl rfl rfl rfl rfl (fun H locs hP hS => ?_)
  refine lv_i2l (v := (r5).toInt64) hx hb dL_insert_8 rfl ?_
  obtain ⟨g_4, hf⟩ := gd_some hf
  refine va_last hx hb hE.1 hP (hDm Tn5 Ta5 Oa) hS 3 1 rfl rfl (inb_in g_4) dL_insert_9 (fun H locs hP _ hS => ?_)
  have hP : va_P D vwCl (w_0_1_2_23 q cI cJ cD Tn5 Ta5 (vp_updL Oa ((0 : Int32)).toNatClampNeg ((r5).toInt64))) H := hP
  refine lv_goto (tgt := 25) hx hb dL_insert_10 (by decide) ?_
  refine lv_iconst (v := (0 : Int32)) hx hb dL_insert_25 (by decide) ?_
  cases hf
  refine W.widen (k := 1) (n := 6) (Nat.le_of_ble_eq_true rfl) (Nat.le_of_ble_eq_true rfl) ?_
  exact W.iret hx hb hr (fun t ht hW => ⟨⟨rfl, by rw [ht]; exact hP⟩, hS.F ht⟩) hS.2.2 dL_insert_26
set_option maxHeartbeats 4000000 in
set_option maxRecDepth 100000 in
theorem kL_set (l : Launch) (hlt : l.stackTraces = false) (D : va_G) (cI cJ cD : ClassId) (sa : Nat → Nat) (q : Nat → Nat) (hq : gInj q) (N : Nat) (Tn : Int32) (Ta : (Nat → Int32)) (Oa : (Nat → Int64)) (p1 : Int32) (p2 : Int32) (r0 : Int32) (Ta9 : (Nat → Int32)) (Oa9 : (Nat → Int64)) (hf : fL_set N Tn Ta Oa p1 p2 = some (r0, Ta9, Oa9)) : Met l yL_set wsL_set rL_setx (gPx D cI cJ cD sa (gA q [0, 1, 2, 23]) [.ref (q 0), .int p1, .int p2, .ref (q 23)] (w_0_1_2_23 q cI cJ cD Tn Ta Oa)) (gQ D (some (.int r0)) (w_0_1_2_23 q cI cJ cD Tn Ta9 Oa9) (gA q [0, 1, 2, 23])) 1 6 (gA q [0, 1, 2, 23]) := by
  refine g_ofWH (cc := cL_set) (maxL := 5) (ret := (some .int)) (hh := [(0, 10, 13, 21), (0, 10, 17, 13)]) (by decide +kernel) rfl ?_
  intro p e s m args below meth c s₁ B hml hv
  obtain ⟨rfl, hP, hE, hXe⟩ := hv
  have hx := B.exec
  have hb := B.bytes
  have hr := B.returns
  have hts := atoms_spec (ws := wsL_set) B.pre
  have hown : s.vm.findClass RL = some m.cls := findClass_of_methodNamed B.named
  have hlocks := B.notSynchronized
  have htab : c.exceptionTable.toList = [⟨0, 10, 13, 21⟩, ⟨0, 10, 17, 13⟩] := vx_table (x := yL_set) B (hts _ List.mem_cons_self)
  have hS : va_S (gA q [0, 1, 2, 23]) s.heap s.heap [] := va_S.rf
  have hl := lv_entry ([.ref (q 0), .int p1, .int p2, .ref (q 23)]) (n := 5) (Nat.le_of_ble_eq_true rfl)
  rw [lg_entry_eq]
  generalize (lg_sl ([.ref (q 0), .int p1, .int p2, .ref (q 23)]) ++ List.replicate (5 - (lg_sl ([.ref (q 0), .int p1, .int p2, .ref (q 23)])).length) Slot.unset).toArray = ls at hl ⊢
  have hl : lv_has ls 5 [(0, .ref (q 0)), (1, .int p1), (2, .int p2), (3, .ref (q 23))] := hl
  have hDm : ∀ (z0 : Int32) (z1 : (Nat → Int32)) (z2 : (Nat → Int64)), va_D (gA q [0, 1, 2, 23]) (w_0_1_2_23 q cI cJ cD z0 z1 z2) := fun _ _ _ => gD_of hq [0, 1, 2, 23] rfl rfl rfl (fun k h => ⟨k, h, rfl⟩)
  unfold fL_set at hf
  refine lv_aload_n hx hb dL_set_0 rfl (lv_at hl 3 rfl) ?_
  refine lv_iconst (v := (0 : Int32)) hx hb dL_set_1 (by decide) ?_
  refine lv_aload_n hx hb dL_set_2 rfl (lv_at hl 0 rfl) ?_
  refine lv_iload_n hx hb dL_set_3 rfl (lv_at hl 1 rfl) ?_
  refine lv_iload_n hx hb dL_set_4 rfl (lv_at hl 2 rfl) ?_
  rcases bx_some hf with ⟨⟨e5, Ta5⟩, hc, hf⟩ | ⟨⟨r5, Ta5⟩, hc, hf⟩
  · try dsimp only at hf
    refine g_callX (ws' := (w_0_1_2_23 q cI cJ cD Tn Ta5 Oa)) hq [0, 1, 2, 23] [0, 1, 2] [.inl 0, .inl 1, .inl 2, .inr 3] (vx_runV (As := [.int p1, .int p2]) (rest := [.int (0 : Int32), .ref (q 23)]) ⟨hx, hb, hml, hown, hts⟩ (kX8_setx l hlt D cI cJ cD sa q hq N Tn Ta p1 p2 e5 Ta5 hc) (cwV 2 hts gL_set_X8_set rfl rfl rfl (by decide +kernel) ⟨(Nat.le_of_ble_eq_true rfl), (Nat.le_of_ble_eq_true rfl)⟩) ⟨gPx_blind, va_recv hE.1 hP (ci := 6) (q0 := 0) rfl rfl, fun U hU hW => ⟨rfl, by rw [hU]; exact hP.sub (ws' := (w_0_1_2 q cI cJ cD Tn Ta)) [0, 1, 2] rfl, gEv.warm hW hE, gXe.go hW hS (gMono rfl) hXe hU⟩⟩ rfl rfl hl.1 rfl (lv_room (Nat.le_of_ble_eq_true rfl)) dL_set_5 ⟨(Nat.le_of_ble_eq_true rfl), (Nat.le_of_ble_eq_true rfl)⟩) hP hS (gSub rfl) rfl rfl rfl rfl (fun ce q9 H locs hP hS hce hcv hcl => ?_)
    by_cases c_1 : e5 = 0
    · have hf := (if_pos c_1).symm.trans hf
      subst c_1
      refine vx_catch (E := "java/lang/IndexOutOfBoundsException") (name := "java/lang/IndexOutOfBoundsException") hown [] ⟨0, 10, 13, 21⟩ [⟨0, 10, 17, 13⟩] htab (fun _ h => nomatch h) rfl (by decide) (hts (.classLink RL 21 "java/lang/IndexOutOfBoundsException") (by decide +kernel)) (va_Nw.use rfl (hXe.1.2.1 "java/lang/IndexOutOfBoundsException" (by decide +kernel))) hce hcv hcl ?_
      refine lv_astore (lv' := [(4, .ref q9), (0, .ref (q 0)), (1, .int p1), (2, .int p2), (3, .ref (q 23))]) hx hb dL_set_13 hl (by decide) rfl (fun ls hl => ?_)
      refine lv_iconst (v := (1 : Int32)) hx hb dL_set_15 (by decide) ?_
      cases hf
      refine W.widen (k := 1) (n := 6) (Nat.le_of_ble_eq_true rfl) (Nat.le_of_ble_eq_true rfl) ?_
      exact W.iret hx hb hr (fun t ht hW => ⟨⟨rfl, by rw [ht]; exact hP⟩, hS.F ht⟩) hS.2.2 dL_set_16
    have hf := (if_neg c_1).symm.trans hf
    by_cases c_2 : e5 = 1
    · have hf := (if_pos c_2).symm.trans hf
      subst c_2
      refine vx_catch (E := "java/lang/IllegalArgumentException") (name := "java/lang/IllegalArgumentException") hown [⟨0, 10, 13, 21⟩] ⟨0, 10, 17, 13⟩ [] htab (List.forall_mem_cons.mpr ⟨Or.inr ⟨by decide, "java/lang/IndexOutOfBoundsException", hts (.classLink RL 21 "java/lang/IndexOutOfBoundsException") (by decide +kernel), hXe.1.2.2.1 "java/lang/IllegalArgumentException" (by decide +kernel) "java/lang/IndexOutOfBoundsException" (by decide +kernel) (by decide +kernel)⟩, fun _ h => nomatch h⟩) rfl (by decide) (hts (.classLink RL 13 "java/lang/IllegalArgumentException") (by decide +kernel)) (va_Nw.use rfl (hXe.1.2.1 "java/lang/IllegalArgumentException" (by decide +kernel))) hce hcv hcl ?_
      refine lv_astore (lv' := [(4, .ref q9), (0, .ref (q 0)), (1, .int p1), (2, .int p2), (3, .ref (q 23))]) hx hb dL_set_17 hl (by decide) rfl (fun ls hl => ?_)
      refine lv_iconst (v := (2 : Int32)) hx hb dL_set_19 (by decide) ?_
      cases hf
      refine W.widen (k := 1) (n := 6) (Nat.le_of_ble_eq_true rfl) (Nat.le_of_ble_eq_true rfl) ?_
      exact W.iret hx hb hr (fun t ht hW => ⟨⟨rfl, by rw [ht]; exact hP⟩, hS.F ht⟩) hS.2.2 dL_set_20
    have hf := (if_neg c_2).symm.trans hf
    exact nomatch hf
  try dsimp only at hf
  refine g_call0 (ws' := (w_0_1_2_23 q cI cJ cD Tn Ta5 Oa)) (st1 := [.int r5, .int (0 : Int32), .ref (q 23)]) hq [0, 1, 2, 23] [0, 1, 2] [.inl 0, .inl 1, .inl 2, .inr 3] (va_runV (As := [.int p1, .int p2]) (rest := [.int (0 : Int32), .ref (q 23)]) ⟨hx, hb, hml, hown, hts⟩ (kX8_set l D cI cJ cD q hq N Tn Ta p1 p2 r5 Ta5 hc) (cwV 2 hts gL_set_X8_set rfl rfl rfl (by decide +kernel) ⟨(Nat.le_of_ble_eq_true rfl), (Nat.le_of_ble_eq_true rfl)⟩) ⟨gP_blind, va_recv hE.1 hP (ci := 6) (q0 := 0) rfl rfl, fun U hU hW => ⟨rfl, by rw [hU]; exact hP.sub (ws' := (w_0_1_2 q cI cJ cD Tn Ta)) [0, 1, 2] rfl, gEv.warm hW hE⟩⟩ rfl rfl hl.1 rfl (lv_room (Nat.le_of_ble_eq_true rfl)) dL_set_5 ⟨Nat.zero_le _, Nat.zero_le _⟩) hP hS (gSub rfl) rfl rfl rfl rfl rfl (fun H locs hP hS => ?_)
  refine lv_i2l (v := (r5).toInt64) hx hb dL_set_8 rfl ?_
  obtain ⟨g_3, hf⟩ := gd_some hf
  refine va_last hx hb hE.1 hP (hDm Tn Ta5 Oa) hS 3 1 rfl rfl (inb_in g_3) dL_set_9 (fun H locs hP _ hS => ?_)
  have hP : va_P D vwCl (w_0_1_2_23 q cI cJ cD Tn Ta5 (vp_updL Oa ((0 : Int32)).toNatClampNeg ((r5).toInt64))) H := hP
  refine lv_goto (tgt := 21) hx hb dL_set_10 (by decide) ?_
  refine lv_iconst (v := (0 : Int32)) hx hb dL_set_21 (by decide) ?_
  cases hf
  refine W.widen (k := 1) (n := 6) (Nat.le_of_ble_eq_true rfl) (Nat.le_of_ble_eq_true rfl) ?_
  exact W.iret hx hb hr (fun t ht hW => ⟨⟨rfl, by rw [ht]; exact hP⟩, hS.F ht⟩) hS.2.2 dL_set_22
set_option maxHeartbeats 4000000 in
set_option maxRecDepth 100000 in
theorem kL_remove (l : Launch) (hlt : l.stackTraces = false) (D : va_G) (cI cJ cD : ClassId) (sa : Nat → Nat) (q : Nat → Nat) (hq : gInj q) (N : Nat) (Tn : Int32) (Ta : (Nat → Int32)) (Oa : (Nat → Int64)) (p1 : Int32) (r0 : Int32) (Tn9 : Int32) (Ta9 : (Nat → Int32)) (Oa9 : (Nat → Int64)) (hf : fL_remove N Tn Ta Oa p1 = some (r0, Tn9, Ta9, Oa9)) : Met l yL_remove wsL_remove rL_removex (gPx D cI cJ cD sa (gA q [0, 1, 2, 23]) [.ref (q 0), .int p1, .ref (q 23)] (w_0_1_2_23 q cI cJ cD Tn Ta Oa)) (gQ D (some (.int r0)) (w_0_1_2_23 q cI cJ cD Tn9 Ta9 Oa9) (gA q [0, 1, 2, 23])) 1 6 (gA q [0, 1, 2, 23]) := by
  refine g_ofWH (cc := cL_remove) (maxL := 4) (ret := (some .int)) (hh := [(0, 9, 12, 21)]) (by decide +kernel) rfl ?_
  intro p e s m args below meth c s₁ B hml hv
  obtain ⟨rfl, hP, hE, hXe⟩ := hv
  have hx := B.exec
  have hb := B.bytes
  have hr := B.returns
  have hts := atoms_spec (ws := wsL_remove) B.pre
  have hown : s.vm.findClass RL = some m.cls := findClass_of_methodNamed B.named
  have hlocks := B.notSynchronized
  have htab : c.exceptionTable.toList = [⟨0, 9, 12, 21⟩] := vx_table (x := yL_remove) B (hts _ List.mem_cons_self)
  have hS : va_S (gA q [0, 1, 2, 23]) s.heap s.heap [] := va_S.rf
  have hl := lv_entry ([.ref (q 0), .int p1, .ref (q 23)]) (n := 4) (Nat.le_of_ble_eq_true rfl)
  rw [lg_entry_eq]
  generalize (lg_sl ([.ref (q 0), .int p1, .ref (q 23)]) ++ List.replicate (4 - (lg_sl ([.ref (q 0), .int p1, .ref (q 23)])).length) Slot.unset).toArray = ls at hl ⊢
  have hl : lv_has ls 4 [(0, .ref (q 0)), (1, .int p1), (2, .ref (q 23))] := hl
  have hDm : ∀ (z0 : Int32) (z1 : (Nat → Int32)) (z2 : (Nat → Int64)), va_D (gA q [0, 1, 2, 23]) (w_0_1_2_23 q cI cJ cD z0 z1 z2) := fun _ _ _ => gD_of hq [0, 1, 2, 23] rfl rfl rfl (fun k h => ⟨k, h, rfl⟩)
  unfold fL_remove at hf
  refine lv_aload_n hx hb dL_remove_0 rfl (lv_at hl 2 rfl) ?_
  refine lv_iconst (v := (0 : Int32)) hx hb dL_remove_1 (by decide) ?_
  refine lv_aload_n hx hb dL_remove_2 rfl (lv_at hl 0 rfl) ?_
  refine lv_iload_n hx hb dL_remove_3 rfl (lv_at hl 1 rfl) ?_
  rcases bx_some hf with ⟨⟨e4, Tn4, Ta4⟩, hc, hf⟩ | ⟨⟨r4, Tn4, Ta4⟩, hc, hf⟩
  · try dsimp only at hf
    refine g_callX (ws' := (w_0_1_2_23 q cI cJ cD Tn4 Ta4 Oa)) hq [0, 1, 2, 23] [0, 1, 2] [.inl 0, .inl 1, .inl 2, .inr 3] (vx_runV (As := [.int p1]) (rest := [.int (0 : Int32), .ref (q 23)]) ⟨hx, hb, hml, hown, hts⟩ (kX8_removex l hlt D cI cJ cD sa q hq N Tn Ta p1 e4 Tn4 Ta4 hc) (cwV 1 hts gL_remove_X8_remove rfl rfl rfl (by decide +kernel) ⟨(Nat.le_of_ble_eq_true rfl), (Nat.le_of_ble_eq_true rfl)⟩) ⟨gPx_blind, va_recv hE.1 hP (ci := 6) (q0 := 0) rfl rfl, fun U hU hW => ⟨rfl, by rw [hU]; exact hP.sub (ws' := (w_0_1_2 q cI cJ cD Tn Ta)) [0, 1, 2] rfl, gEv.warm hW hE, gXe.go hW hS (gMono rfl) hXe hU⟩⟩ rfl rfl hl.1 rfl (lv_room (Nat.le_of_ble_eq_true rfl)) dL_remove_4 ⟨(Nat.le_of_ble_eq_true rfl), (Nat.le_of_ble_eq_true rfl)⟩) hP hS (gSub rfl) rfl rfl rfl rfl (fun ce q9 H locs hP hS hce hcv hcl => ?_)
    by_cases c_1 : e4 = 0
    · have hf := (if_pos c_1).symm.trans hf
      subst c_1
      refine vx_catch (E := "java/lang/IndexOutOfBoundsException") (name := "java/lang/IndexOutOfBoundsException") hown [] ⟨0, 9, 12, 21⟩ [] htab (fun _ h => nomatch h) rfl (by decide) (hts (.classLink RL 21 "java/lang/IndexOutOfBoundsException") (by decide +kernel)) (va_Nw.use rfl (hXe.1.2.1 "java/lang/IndexOutOfBoundsException" (by decide +kernel))) hce hcv hcl ?_
      refine lv_astore_n (lv' := [(3, .ref q9), (0, .ref (q 0)), (1, .int p1), (2, .ref (q 23))]) hx hb dL_remove_12 rfl hl (by decide) rfl (fun ls hl => ?_)
      refine lv_iconst (v := (1 : Int32)) hx hb dL_remove_13 (by decide) ?_
      cases hf
      refine W.widen (k := 1) (n := 6) (Nat.le_of_ble_eq_true rfl) (Nat.le_of_ble_eq_true rfl) ?_
      exact W.iret hx hb hr (fun t ht hW => ⟨⟨rfl, by rw [ht]; exact hP⟩, hS.F ht⟩) hS.2.2 dL_remove_14
    have hf := (if_neg c_1).symm.trans hf
    exact nomatch hf
  try dsimp only at hf
  refine g_call0 (ws' := (w_0_1_2_23 q cI cJ cD Tn4 Ta4 Oa)) (st1 := [.int r4, .int (0 : Int32), .ref (q 23)]) hq [0, 1, 2, 23] [0, 1, 2] [.inl 0, .inl 1, .inl 2, .inr 3] (va_runV (As := [.int p1]) (rest := [.int (0 : Int32), .ref (q 23)]) ⟨hx, hb, hml, hown, hts⟩ (kX8_remove l D cI cJ cD q hq N Tn Ta p1 r4 Tn4 Ta4 hc) (cwV 1 hts gL_remove_X8_remove rfl rfl rfl (by decide +kernel) ⟨(Nat.le_of_ble_eq_true rfl), (Nat.le_of_ble_eq_true rfl)⟩) ⟨gP_blind, va_recv hE.1 hP (ci := 6) (q0 := 0) rfl rfl, fun U hU hW => ⟨rfl, by rw [hU]; exact hP.sub (ws' := (w_0_1_2 q cI cJ cD Tn Ta)) [0, 1, 2] rfl, gEv.warm hW hE⟩⟩ rfl rfl hl.1 rfl (lv_room (Nat.le_of_ble_eq_true rfl)) dL_remove_4 ⟨Nat.zero_le _, Nat.zero_le _⟩) hP hS (gSub rfl) rfl rfl rfl rfl rfl (fun H locs hP hS => ?_)
  refine lv_i2l (v := (r4).toInt64) hx hb dL_remove_7 rfl ?_
  obtain ⟨g_2, hf⟩ := gd_some hf
  refine va_last hx hb hE.1 hP (hDm Tn4 Ta4 Oa) hS 3 1 rfl rfl (inb_in g_2) dL_remove_8 (fun H locs hP _ hS => ?_)
  have hP : va_P D vwCl (w_0_1_2_23 q cI cJ cD Tn4 Ta4 (vp_updL Oa ((0 : Int32)).toNatClampNeg ((r4).toInt64))) H := hP
  refine lv_goto (tgt := 15) hx hb dL_remove_9 (by decide) ?_
  refine lv_iconst (v := (0 : Int32)) hx hb dL_remove_15 (by decide) ?_
  cases hf
  refine W.widen (k := 1) (n := 6) (Nat.le_of_ble_eq_true rfl) (Nat.le_of_ble_eq_true rfl) ?_
  exact W.iret hx hb hr (fun t ht hW => ⟨⟨rfl, by rw [ht]; exact hP⟩, hS.F ht⟩) hS.2.2 dL_remove_16
set_option maxHeartbeats 4000000 in
set_option maxRecDepth 100000 in
theorem kL_rotate (l : Launch) (hlt : l.stackTraces = false) (D : va_G) (cI cJ cD : ClassId) (sa : Nat → Nat) (q : Nat → Nat) (hq : gInj q) (N : Nat) (Tn : Int32) (Ta : (Nat → Int32)) (Oa : (Nat → Int64)) (p1 : Int32) (r0 : Int32) (Ta9 : (Nat → Int32)) (Oa9 : (Nat → Int64)) (hf : fL_rotate N Tn Ta Oa p1 = some (r0, Ta9, Oa9)) : Met l yL_rotate wsL_rotate rL_rotatex (gPx D cI cJ cD sa (gA q [0, 1, 2, 23]) [.ref (q 0), .int p1, .ref (q 23)] (w_0_1_2_23 q cI cJ cD Tn Ta Oa)) (gQ D (some (.int r0)) (w_0_1_2_23 q cI cJ cD Tn Ta9 Oa9) (gA q [0, 1, 2, 23])) 1 6 (gA q [0, 1, 2, 23]) := by
  refine g_ofWH (cc := cL_rotate) (maxL := 4) (ret := (some .int)) (hh := [(0, 9, 12, 13), (0, 9, 15, 15)]) (by decide +kernel) rfl ?_
  intro p e s m args below meth c s₁ B hml hv
  obtain ⟨rfl, hP, hE, hXe⟩ := hv
  have hx := B.exec
  have hb := B.bytes
  have hr := B.returns
  have hts := atoms_spec (ws := wsL_rotate) B.pre
  have hown : s.vm.findClass RL = some m.cls := findClass_of_methodNamed B.named
  have hlocks := B.notSynchronized
  have htab : c.exceptionTable.toList = [⟨0, 9, 12, 13⟩, ⟨0, 9, 15, 15⟩] := vx_table (x := yL_rotate) B (hts _ List.mem_cons_self)
  have hS : va_S (gA q [0, 1, 2, 23]) s.heap s.heap [] := va_S.rf
  have hl := lv_entry ([.ref (q 0), .int p1, .ref (q 23)]) (n := 4) (Nat.le_of_ble_eq_true rfl)
  rw [lg_entry_eq]
  generalize (lg_sl ([.ref (q 0), .int p1, .ref (q 23)]) ++ List.replicate (4 - (lg_sl ([.ref (q 0), .int p1, .ref (q 23)])).length) Slot.unset).toArray = ls at hl ⊢
  have hl : lv_has ls 4 [(0, .ref (q 0)), (1, .int p1), (2, .ref (q 23))] := hl
  have hDm : ∀ (z0 : Int32) (z1 : (Nat → Int32)) (z2 : (Nat → Int64)), va_D (gA q [0, 1, 2, 23]) (w_0_1_2_23 q cI cJ cD z0 z1 z2) := fun _ _ _ => gD_of hq [0, 1, 2, 23] rfl rfl rfl (fun k h => ⟨k, h, rfl⟩)
  unfold fL_rotate at hf
  refine lv_aload_n hx hb dL_rotate_0 rfl (lv_at hl 2 rfl) ?_
  refine lv_iconst (v := (0 : Int32)) hx hb dL_rotate_1 (by decide) ?_
  refine lv_aload_n hx hb dL_rotate_2 rfl (lv_at hl 0 rfl) ?_
  refine lv_iload_n hx hb dL_rotate_3 rfl (lv_at hl 1 rfl) ?_
  rcases bx_some hf with ⟨⟨e4, Ta4⟩, hc, hf⟩ | ⟨⟨r4, Ta4⟩, hc, hf⟩
  · try dsimp only at hf
    refine g_callX (ws' := (w_0_1_2_23 q cI cJ cD Tn Ta4 Oa)) hq [0, 1, 2, 23] [0, 1, 2] [.inl 0, .inl 1, .inl 2, .inr 3] (vx_runV (As := [.int p1]) (rest := [.int (0 : Int32), .ref (q 23)]) ⟨hx, hb, hml, hown, hts⟩ (kX8_rotatex l hlt D cI cJ cD sa q hq N Tn Ta p1 e4 Ta4 hc) (cwV 1 hts gL_rotate_X8_rotate rfl rfl rfl (by decide +kernel) ⟨(Nat.le_of_ble_eq_true rfl), (Nat.le_of_ble_eq_true rfl)⟩) ⟨gPx_blind, va_recv hE.1 hP (ci := 6) (q0 := 0) rfl rfl, fun U hU hW => ⟨rfl, by rw [hU]; exact hP.sub (ws' := (w_0_1_2 q cI cJ cD Tn Ta)) [0, 1, 2] rfl, gEv.warm hW hE, gXe.go hW hS (gMono rfl) hXe hU⟩⟩ rfl rfl hl.1 rfl (lv_room (Nat.le_of_ble_eq_true rfl)) dL_rotate_4 ⟨(Nat.le_of_ble_eq_true rfl), (Nat.le_of_ble_eq_true rfl)⟩) hP hS (gSub rfl) rfl rfl rfl rfl (fun ce q9 H locs hP hS hce hcv hcl => ?_)
    by_cases c_1 : e4 = 1
    · have hf := (if_pos c_1).symm.trans hf
      subst c_1
      refine vx_catch (E := "java/lang/IllegalArgumentException") (name := "java/lang/IllegalArgumentException") hown [] ⟨0, 9, 12, 13⟩ [⟨0, 9, 15, 15⟩] htab (fun _ h => nomatch h) rfl (by decide) (hts (.classLink RL 13 "java/lang/IllegalArgumentException") (by decide +kernel)) (va_Nw.use rfl (hXe.1.2.1 "java/lang/IllegalArgumentException" (by decide +kernel))) hce hcv hcl ?_
      refine lv_astore_n (lv' := [(3, .ref q9), (0, .ref (q 0)), (1, .int p1), (2, .ref (q 23))]) hx hb dL_rotate_12 rfl hl (by decide) rfl (fun ls hl => ?_)
      refine lv_iconst (v := (1 : Int32)) hx hb dL_rotate_13 (by decide) ?_
      cases hf
      refine W.widen (k := 1) (n := 6) (Nat.le_of_ble_eq_true rfl) (Nat.le_of_ble_eq_true rfl) ?_
      exact W.iret hx hb hr (fun t ht hW => ⟨⟨rfl, by rw [ht]; exact hP⟩, hS.F ht⟩) hS.2.2 dL_rotate_14
    have hf := (if_neg c_1).symm.trans hf
    by_cases c_2 : e4 = 2
    · have hf := (if_pos c_2).symm.trans hf
      subst c_2
      refine vx_catch (E := "java/lang/IllegalStateException") (name := "java/lang/IllegalStateException") hown [⟨0, 9, 12, 13⟩] ⟨0, 9, 15, 15⟩ [] htab (List.forall_mem_cons.mpr ⟨Or.inr ⟨by decide, "java/lang/IllegalArgumentException", hts (.classLink RL 13 "java/lang/IllegalArgumentException") (by decide +kernel), hXe.1.2.2.1 "java/lang/IllegalStateException" (by decide +kernel) "java/lang/IllegalArgumentException" (by decide +kernel) (by decide +kernel)⟩, fun _ h => nomatch h⟩) rfl (by decide) (hts (.classLink RL 15 "java/lang/IllegalStateException") (by decide +kernel)) (va_Nw.use rfl (hXe.1.2.1 "java/lang/IllegalStateException" (by decide +kernel))) hce hcv hcl ?_
      refine lv_astore_n (lv' := [(3, .ref q9), (0, .ref (q 0)), (1, .int p1), (2, .ref (q 23))]) hx hb dL_rotate_15 rfl hl (by decide) rfl (fun ls hl => ?_)
      refine lv_iconst (v := (2 : Int32)) hx hb dL_rotate_16 (by decide) ?_
      cases hf
      refine W.widen (k := 1) (n := 6) (Nat.le_of_ble_eq_true rfl) (Nat.le_of_ble_eq_true rfl) ?_
      exact W.iret hx hb hr (fun t ht hW => ⟨⟨rfl, by rw [ht]; exact hP⟩, hS.F ht⟩) hS.2.2 dL_rotate_17
    have hf := (if_neg c_2).symm.trans hf
    exact nomatch hf
  try dsimp only at hf
  refine g_call0 (ws' := (w_0_1_2_23 q cI cJ cD Tn Ta4 Oa)) (st1 := [.int r4, .int (0 : Int32), .ref (q 23)]) hq [0, 1, 2, 23] [0, 1, 2] [.inl 0, .inl 1, .inl 2, .inr 3] (va_runV (As := [.int p1]) (rest := [.int (0 : Int32), .ref (q 23)]) ⟨hx, hb, hml, hown, hts⟩ (kX8_rotate l D cI cJ cD q hq N Tn Ta p1 r4 Ta4 hc) (cwV 1 hts gL_rotate_X8_rotate rfl rfl rfl (by decide +kernel) ⟨(Nat.le_of_ble_eq_true rfl), (Nat.le_of_ble_eq_true rfl)⟩) ⟨gP_blind, va_recv hE.1 hP (ci := 6) (q0 := 0) rfl rfl, fun U hU hW => ⟨rfl, by rw [hU]; exact hP.sub (ws' := (w_0_1_2 q cI cJ cD Tn Ta)) [0, 1, 2] rfl, gEv.warm hW hE⟩⟩ rfl rfl hl.1 rfl (lv_room (Nat.le_of_ble_eq_true rfl)) dL_rotate_4 ⟨Nat.zero_le _, Nat.zero_le _⟩) hP hS (gSub rfl) rfl rfl rfl rfl rfl (fun H locs hP hS => ?_)
  refine lv_i2l (v := (r4).toInt64) hx hb dL_rotate_7 rfl ?_
  obtain ⟨g_3, hf⟩ := gd_some hf
  refine va_last hx hb hE.1 hP (hDm Tn Ta4 Oa) hS 3 1 rfl rfl (inb_in g_3) dL_rotate_8 (fun H locs hP _ hS => ?_)
  have hP : va_P D vwCl (w_0_1_2_23 q cI cJ cD Tn Ta4 (vp_updL Oa ((0 : Int32)).toNatClampNeg ((r4).toInt64))) H := hP
  refine lv_goto (tgt := 18) hx hb dL_rotate_9 (by decide) ?_
  refine lv_iconst (v := (0 : Int32)) hx hb dL_rotate_18 (by decide) ?_
  cases hf
  refine W.widen (k := 1) (n := 6) (Nat.le_of_ble_eq_true rfl) (Nat.le_of_ble_eq_true rfl) ?_
  exact W.iret hx hb hr (fun t ht hW => ⟨⟨rfl, by rw [ht]; exact hP⟩, hS.F ht⟩) hS.2.2 dL_rotate_19
set_option maxHeartbeats 4000000 in
set_option maxRecDepth 100000 in
theorem kL_appendPart (l : Launch) (hlt : l.stackTraces = false) (D : va_G) (cI cJ cD : ClassId) (sa : Nat → Nat) (q : Nat → Nat) (hq : gInj q) (N : Nat) (Tn : Int32) (Ta : (Nat → Int32)) (Oa : (Nat → Int64)) (p1 : Int32) (p2 : Int32) (r0 : Int32) (Tn9 : Int32) (Ta9 : (Nat → Int32)) (Oa9 : (Nat → Int64)) (hf : fL_appendPart N Tn Ta Oa p1 p2 = some (r0, Tn9, Ta9, Oa9)) : Met l yL_appendPart wsL_appendPart rL_appendPartx (gPx D cI cJ cD sa (gA q [0, 1, 2, 23]) [.ref (q 0), .int p1, .int p2, .ref (q 23)] (w_0_1_2_23 q cI cJ cD Tn Ta Oa)) (gQ D (some (.int r0)) (w_0_1_2_23 q cI cJ cD Tn9 Ta9 Oa9) (gA q [0, 1, 2, 23])) 1 6 (gA q [0, 1, 2, 23]) := by
  refine g_ofWH (cc := cL_appendPart) (maxL := 5) (ret := (some .int)) (hh := [(0, 10, 13, 21), (0, 10, 17, 15)]) (by decide +kernel) rfl ?_
  intro p e s m args below meth c s₁ B hml hv
  obtain ⟨rfl, hP, hE, hXe⟩ := hv
  have hx := B.exec
  have hb := B.bytes
  have hr := B.returns
  have hts := atoms_spec (ws := wsL_appendPart) B.pre
  have hown : s.vm.findClass RL = some m.cls := findClass_of_methodNamed B.named
  have hlocks := B.notSynchronized
  have htab : c.exceptionTable.toList = [⟨0, 10, 13, 21⟩, ⟨0, 10, 17, 15⟩] := vx_table (x := yL_appendPart) B (hts _ List.mem_cons_self)
  have hS : va_S (gA q [0, 1, 2, 23]) s.heap s.heap [] := va_S.rf
  have hl := lv_entry ([.ref (q 0), .int p1, .int p2, .ref (q 23)]) (n := 5) (Nat.le_of_ble_eq_true rfl)
  rw [lg_entry_eq]
  generalize (lg_sl ([.ref (q 0), .int p1, .int p2, .ref (q 23)]) ++ List.replicate (5 - (lg_sl ([.ref (q 0), .int p1, .int p2, .ref (q 23)])).length) Slot.unset).toArray = ls at hl ⊢
  have hl : lv_has ls 5 [(0, .ref (q 0)), (1, .int p1), (2, .int p2), (3, .ref (q 23))] := hl
  have hDm : ∀ (z0 : Int32) (z1 : (Nat → Int32)) (z2 : (Nat → Int64)), va_D (gA q [0, 1, 2, 23]) (w_0_1_2_23 q cI cJ cD z0 z1 z2) := fun _ _ _ => gD_of hq [0, 1, 2, 23] rfl rfl rfl (fun k h => ⟨k, h, rfl⟩)
  unfold fL_appendPart at hf
  refine lv_aload_n hx hb dL_appendPart_0 rfl (lv_at hl 3 rfl) ?_
  refine lv_iconst (v := (0 : Int32)) hx hb dL_appendPart_1 (by decide) ?_
  refine lv_aload_n hx hb dL_appendPart_2 rfl (lv_at hl 0 rfl) ?_
  refine lv_iload_n hx hb dL_appendPart_3 rfl (lv_at hl 1 rfl) ?_
  refine lv_iload_n hx hb dL_appendPart_4 rfl (lv_at hl 2 rfl) ?_
  rcases bx_some hf with ⟨⟨e5, Tn5, Ta5⟩, hc, hf⟩ | ⟨⟨r5, Tn5, Ta5⟩, hc, hf⟩
  · try dsimp only at hf
    refine g_callX (ws' := (w_0_1_2_23 q cI cJ cD Tn5 Ta5 Oa)) hq [0, 1, 2, 23] [0, 1, 2] [.inl 0, .inl 1, .inl 2, .inr 3] (vx_runV (As := [.int p1, .int p2]) (rest := [.int (0 : Int32), .ref (q 23)]) ⟨hx, hb, hml, hown, hts⟩ (kX8_appendPartx l hlt D cI cJ cD sa q hq N Tn Ta p1 p2 e5 Tn5 Ta5 hc) (cwV 2 hts gL_appendPart_X8_appendPart rfl rfl rfl (by decide +kernel) ⟨(Nat.le_of_ble_eq_true rfl), (Nat.le_of_ble_eq_true rfl)⟩) ⟨gPx_blind, va_recv hE.1 hP (ci := 6) (q0 := 0) rfl rfl, fun U hU hW => ⟨rfl, by rw [hU]; exact hP.sub (ws' := (w_0_1_2 q cI cJ cD Tn Ta)) [0, 1, 2] rfl, gEv.warm hW hE, gXe.go hW hS (gMono rfl) hXe hU⟩⟩ rfl rfl hl.1 rfl (lv_room (Nat.le_of_ble_eq_true rfl)) dL_appendPart_5 ⟨(Nat.le_of_ble_eq_true rfl), (Nat.le_of_ble_eq_true rfl)⟩) hP hS (gSub rfl) rfl rfl rfl rfl (fun ce q9 H locs hP hS hce hcv hcl => ?_)
    by_cases c_1 : e5 = 0
    · have hf := (if_pos c_1).symm.trans hf
      subst c_1
      refine vx_catch (E := "java/lang/IndexOutOfBoundsException") (name := "java/lang/IndexOutOfBoundsException") hown [] ⟨0, 10, 13, 21⟩ [⟨0, 10, 17, 15⟩] htab (fun _ h => nomatch h) rfl (by decide) (hts (.classLink RL 21 "java/lang/IndexOutOfBoundsException") (by decide +kernel)) (va_Nw.use rfl (hXe.1.2.1 "java/lang/IndexOutOfBoundsException" (by decide +kernel))) hce hcv hcl ?_
      refine lv_astore (lv' := [(4, .ref q9), (0, .ref (q 0)), (1, .int p1), (2, .int p2), (3, .ref (q 23))]) hx hb dL_appendPart_13 hl (by decide) rfl (fun ls hl => ?_)
      refine lv_iconst (v := (1 : Int32)) hx hb dL_appendPart_15 (by decide) ?_
      cases hf
      refine W.widen (k := 1) (n := 6) (Nat.le_of_ble_eq_true rfl) (Nat.le_of_ble_eq_true rfl) ?_
      exact W.iret hx hb hr (fun t ht hW => ⟨⟨rfl, by rw [ht]; exact hP⟩, hS.F ht⟩) hS.2.2 dL_appendPart_16
    have hf := (if_neg c_1).symm.trans hf
    by_cases c_2 : e5 = 2
    · have hf := (if_pos c_2).symm.trans hf
      subst c_2
      refine vx_catch (E := "java/lang/IllegalStateException") (name := "java/lang/IllegalStateException") hown [⟨0, 10, 13, 21⟩] ⟨0, 10, 17, 15⟩ [] htab (List.forall_mem_cons.mpr ⟨Or.inr ⟨by decide, "java/lang/IndexOutOfBoundsException", hts (.classLink RL 21 "java/lang/IndexOutOfBoundsException") (by decide +kernel), hXe.1.2.2.1 "java/lang/IllegalStateException" (by decide +kernel) "java/lang/IndexOutOfBoundsException" (by decide +kernel) (by decide +kernel)⟩, fun _ h => nomatch h⟩) rfl (by decide) (hts (.classLink RL 15 "java/lang/IllegalStateException") (by decide +kernel)) (va_Nw.use rfl (hXe.1.2.1 "java/lang/IllegalStateException" (by decide +kernel))) hce hcv hcl ?_
      refine lv_astore (lv' := [(4, .ref q9), (0, .ref (q 0)), (1, .int p1), (2, .int p2), (3, .ref (q 23))]) hx hb dL_appendPart_17 hl (by decide) rfl (fun ls hl => ?_)
      refine lv_iconst (v := (2 : Int32)) hx hb dL_appendPart_19 (by decide) ?_
      cases hf
      refine W.widen (k := 1) (n := 6) (Nat.le_of_ble_eq_true rfl) (Nat.le_of_ble_eq_true rfl) ?_
      exact W.iret hx hb hr (fun t ht hW => ⟨⟨rfl, by rw [ht]; exact hP⟩, hS.F ht⟩) hS.2.2 dL_appendPart_20
    have hf := (if_neg c_2).symm.trans hf
    exact nomatch hf
  try dsimp only at hf
  refine g_call0 (ws' := (w_0_1_2_23 q cI cJ cD Tn5 Ta5 Oa)) (st1 := [.int r5, .int (0 : Int32), .ref (q 23)]) hq [0, 1, 2, 23] [0, 1, 2] [.inl 0, .inl 1, .inl 2, .inr 3] (va_runV (As := [.int p1, .int p2]) (rest := [.int (0 : Int32), .ref (q 23)]) ⟨hx, hb, hml, hown, hts⟩ (kX8_appendPart l D cI cJ cD q hq N Tn Ta p1 p2 r5 Tn5 Ta5 hc) (cwV 2 hts gL_appendPart_X8_appendPart rfl rfl rfl (by decide +kernel) ⟨(Nat.le_of_ble_eq_true rfl), (Nat.le_of_ble_eq_true rfl)⟩) ⟨gP_blind, va_recv hE.1 hP (ci := 6) (q0 := 0) rfl rfl, fun U hU hW => ⟨rfl, by rw [hU]; exact hP.sub (ws' := (w_0_1_2 q cI cJ cD Tn Ta)) [0, 1, 2] rfl, gEv.warm hW hE⟩⟩ rfl rfl hl.1 rfl (lv_room (Nat.le_of_ble_eq_true rfl)) dL_appendPart_5 ⟨Nat.zero_le _, Nat.zero_le _⟩) hP hS (gSub rfl) rfl rfl rfl rfl rfl (fun H locs hP hS => ?_)
  refine lv_i2l (v := (r5).toInt64) hx hb dL_appendPart_8 rfl ?_
  obtain ⟨g_3, hf⟩ := gd_some hf
  refine va_last hx hb hE.1 hP (hDm Tn5 Ta5 Oa) hS 3 1 rfl rfl (inb_in g_3) dL_appendPart_9 (fun H locs hP _ hS => ?_)
  have hP : va_P D vwCl (w_0_1_2_23 q cI cJ cD Tn5 Ta5 (vp_updL Oa ((0 : Int32)).toNatClampNeg ((r5).toInt64))) H := hP
  refine lv_goto (tgt := 21) hx hb dL_appendPart_10 (by decide) ?_
  refine lv_iconst (v := (0 : Int32)) hx hb dL_appendPart_21 (by decide) ?_
  cases hf
  refine W.widen (k := 1) (n := 6) (Nat.le_of_ble_eq_true rfl) (Nat.le_of_ble_eq_true rfl) ?_
  exact W.iret hx hb hr (fun t ht hW => ⟨⟨rfl, by rw [ht]; exact hP⟩, hS.F ht⟩) hS.2.2 dL_appendPart_22
set_option maxHeartbeats 4000000 in
set_option maxRecDepth 100000 in
theorem kL_loadDeBruijn (l : Launch) (hlt : l.stackTraces = false) (D : va_G) (cI cJ cD : ClassId) (sa : Nat → Nat) (q : Nat → Nat) (hq : gInj q) (N : Nat) (Tn : Int32) (Ta : (Nat → Int32)) (Wg : Int32) (Wz : Int32) (Ww : Int32) (Wr : Int32) (Oa : (Nat → Int64)) (p1 : Int32) (p2 : Int32) (r0 : Int32) (Tn9 : Int32) (Ta9 : (Nat → Int32)) (Wg9 : Int32) (Wz9 : Int32) (Ww9 : Int32) (Wr9 : Int32) (Oa9 : (Nat → Int64)) (hf : fL_loadDeBruijn N Tn Ta Wg Wz Ww Wr Oa p1 p2 = some (r0, Tn9, Ta9, Wg9, Wz9, Ww9, Wr9, Oa9)) : Met l yL_loadDeBruijn wsL_loadDeBruijn rL_loadDeBruijnx (gPx D cI cJ cD sa (gA q [0, 1, 2, 13, 23]) [.ref (q 0), .int p1, .int p2, .ref (q 23)] (w_0_1_2_13_23 q cI cJ cD Tn Ta Wg Wz Ww Wr Oa)) (gQ D (some (.int r0)) (w_0_1_2_13_23 q cI cJ cD Tn9 Ta9 Wg9 Wz9 Ww9 Wr9 Oa9) (gA q [0, 1, 2, 13, 23])) 1 6 (gA q [0, 1, 2, 13, 23]) := by
  refine g_ofWH (cc := cL_loadDeBruijn) (maxL := 5) (ret := (some .int)) (hh := [(0, 10, 13, 13)]) (by decide +kernel) rfl ?_
  intro p e s m args below meth c s₁ B hml hv
  obtain ⟨rfl, hP, hE, hXe⟩ := hv
  have hx := B.exec
  have hb := B.bytes
  have hr := B.returns
  have hts := atoms_spec (ws := wsL_loadDeBruijn) B.pre
  have hown : s.vm.findClass RL = some m.cls := findClass_of_methodNamed B.named
  have hlocks := B.notSynchronized
  have htab : c.exceptionTable.toList = [⟨0, 10, 13, 13⟩] := vx_table (x := yL_loadDeBruijn) B (hts _ List.mem_cons_self)
  have hS : va_S (gA q [0, 1, 2, 13, 23]) s.heap s.heap [] := va_S.rf
  have hl := lv_entry ([.ref (q 0), .int p1, .int p2, .ref (q 23)]) (n := 5) (Nat.le_of_ble_eq_true rfl)
  rw [lg_entry_eq]
  generalize (lg_sl ([.ref (q 0), .int p1, .int p2, .ref (q 23)]) ++ List.replicate (5 - (lg_sl ([.ref (q 0), .int p1, .int p2, .ref (q 23)])).length) Slot.unset).toArray = ls at hl ⊢
  have hl : lv_has ls 5 [(0, .ref (q 0)), (1, .int p1), (2, .int p2), (3, .ref (q 23))] := hl
  have hDm : ∀ (z0 : Int32) (z1 : (Nat → Int32)) (z2 : Int32) (z3 : Int32) (z4 : Int32) (z5 : Int32) (z6 : (Nat → Int64)), va_D (gA q [0, 1, 2, 13, 23]) (w_0_1_2_13_23 q cI cJ cD z0 z1 z2 z3 z4 z5 z6) := fun _ _ _ _ _ _ _ => gD_of hq [0, 1, 2, 13, 23] rfl rfl rfl (fun k h => ⟨k, h, rfl⟩)
  unfold fL_loadDeBruijn at hf
  refine lv_aload_n hx hb dL_loadDeBruijn_0 rfl (lv_at hl 3 rfl) ?_
  refine lv_iconst (v := (0 : Int32)) hx hb dL_loadDeBruijn_1 (by decide) ?_
  refine lv_aload_n hx hb dL_loadDeBruijn_2 rfl (lv_at hl 0 rfl) ?_
  refine lv_iload_n hx hb dL_loadDeBruijn_3 rfl (lv_at hl 1 rfl) ?_
  refine lv_iload_n hx hb dL_loadDeBruijn_4 rfl (lv_at hl 2 rfl) ?_
  rcases bx_some hf with ⟨⟨e5, Tn5, Ta5, Wg5, Wz5, Ww5, Wr5⟩, hc, hf⟩ | ⟨⟨r5, Tn5, Ta5, Wg5, Wz5, Ww5, Wr5⟩, hc, hf⟩
  · try dsimp only at hf
    refine g_callX (ws' := (w_0_1_2_13_23 q cI cJ cD Tn5 Ta5 Wg5 Wz5 Ww5 Wr5 Oa)) hq [0, 1, 2, 13, 23] [0, 1, 2, 13] [.inl 0, .inl 1, .inl 2, .inl 3, .inr 4] (vx_runV (As := [.int p1, .int p2]) (rest := [.int (0 : Int32), .ref (q 23)]) ⟨hx, hb, hml, hown, hts⟩ (kX8_loadDeBruijnx l hlt D cI cJ cD sa q hq N Tn Ta Wg Wz Ww Wr p1 p2 e5 Tn5 Ta5 Wg5 Wz5 Ww5 Wr5 hc) (cwV 2 hts gL_loadDeBruijn_X8_loadDeBruijn rfl rfl rfl (by decide +kernel) ⟨(Nat.le_of_ble_eq_true rfl), (Nat.le_of_ble_eq_true rfl)⟩) ⟨gPx_blind, va_recv hE.1 hP (ci := 6) (q0 := 0) rfl rfl, fun U hU hW => ⟨rfl, by rw [hU]; exact hP.sub (ws' := (w_0_1_2_13 q cI cJ cD Tn Ta Wg Wz Ww Wr)) [0, 1, 2, 3] rfl, gEv.warm hW hE, gXe.go hW hS (gMono rfl) hXe hU⟩⟩ rfl rfl hl.1 rfl (lv_room (Nat.le_of_ble_eq_true rfl)) dL_loadDeBruijn_5 ⟨(Nat.le_of_ble_eq_true rfl), (Nat.le_of_ble_eq_true rfl)⟩) hP hS (gSub rfl) rfl rfl rfl rfl (fun ce q9 H locs hP hS hce hcv hcl => ?_)
    by_cases c_1 : e5 = 1
    · have hf := (if_pos c_1).symm.trans hf
      subst c_1
      refine vx_catch (E := "java/lang/IllegalArgumentException") (name := "java/lang/IllegalArgumentException") hown [] ⟨0, 10, 13, 13⟩ [] htab (fun _ h => nomatch h) rfl (by decide) (hts (.classLink RL 13 "java/lang/IllegalArgumentException") (by decide +kernel)) (va_Nw.use rfl (hXe.1.2.1 "java/lang/IllegalArgumentException" (by decide +kernel))) hce hcv hcl ?_
      refine lv_astore (lv' := [(4, .ref q9), (0, .ref (q 0)), (1, .int p1), (2, .int p2), (3, .ref (q 23))]) hx hb dL_loadDeBruijn_13 hl (by decide) rfl (fun ls hl => ?_)
      refine lv_iconst (v := (1 : Int32)) hx hb dL_loadDeBruijn_15 (by decide) ?_
      cases hf
      refine W.widen (k := 1) (n := 6) (Nat.le_of_ble_eq_true rfl) (Nat.le_of_ble_eq_true rfl) ?_
      exact W.iret hx hb hr (fun t ht hW => ⟨⟨rfl, by rw [ht]; exact hP⟩, hS.F ht⟩) hS.2.2 dL_loadDeBruijn_16
    have hf := (if_neg c_1).symm.trans hf
    exact nomatch hf
  try dsimp only at hf
  refine g_call0 (ws' := (w_0_1_2_13_23 q cI cJ cD Tn5 Ta5 Wg5 Wz5 Ww5 Wr5 Oa)) (st1 := [.int r5, .int (0 : Int32), .ref (q 23)]) hq [0, 1, 2, 13, 23] [0, 1, 2, 13] [.inl 0, .inl 1, .inl 2, .inl 3, .inr 4] (va_runV (As := [.int p1, .int p2]) (rest := [.int (0 : Int32), .ref (q 23)]) ⟨hx, hb, hml, hown, hts⟩ (kX8_loadDeBruijn l D cI cJ cD q hq N Tn Ta Wg Wz Ww Wr p1 p2 r5 Tn5 Ta5 Wg5 Wz5 Ww5 Wr5 hc) (cwV 2 hts gL_loadDeBruijn_X8_loadDeBruijn rfl rfl rfl (by decide +kernel) ⟨(Nat.le_of_ble_eq_true rfl), (Nat.le_of_ble_eq_true rfl)⟩) ⟨gP_blind, va_recv hE.1 hP (ci := 6) (q0 := 0) rfl rfl, fun U hU hW => ⟨rfl, by rw [hU]; exact hP.sub (ws' := (w_0_1_2_13 q cI cJ cD Tn Ta Wg Wz Ww Wr)) [0, 1, 2, 3] rfl, gEv.warm hW hE⟩⟩ rfl rfl hl.1 rfl (lv_room (Nat.le_of_ble_eq_true rfl)) dL_loadDeBruijn_5 ⟨Nat.zero_le _, Nat.zero_le _⟩) hP hS (gSub rfl) rfl rfl rfl rfl rfl (fun H locs hP hS => ?_)
  refine lv_i2l (v := (r5).toInt64) hx hb dL_loadDeBruijn_8 rfl ?_
  obtain ⟨g_2, hf⟩ := gd_some hf
  refine va_last hx hb hE.1 hP (hDm Tn5 Ta5 Wg5 Wz5 Ww5 Wr5 Oa) hS 4 1 rfl rfl (inb_in g_2) dL_loadDeBruijn_9 (fun H locs hP _ hS => ?_)
  have hP : va_P D vwCl (w_0_1_2_13_23 q cI cJ cD Tn5 Ta5 Wg5 Wz5 Ww5 Wr5 (vp_updL Oa ((0 : Int32)).toNatClampNeg ((r5).toInt64))) H := hP
  refine lv_goto (tgt := 17) hx hb dL_loadDeBruijn_10 (by decide) ?_
  refine lv_iconst (v := (0 : Int32)) hx hb dL_loadDeBruijn_17 (by decide) ?_
  cases hf
  refine W.widen (k := 1) (n := 6) (Nat.le_of_ble_eq_true rfl) (Nat.le_of_ble_eq_true rfl) ?_
  exact W.iret hx hb hr (fun t ht hW => ⟨⟨rfl, by rw [ht]; exact hP⟩, hS.F ht⟩) hS.2.2 dL_loadDeBruijn_18
set_option maxHeartbeats 4000000 in
set_option maxRecDepth 100000 in
theorem kL_loadNecklace (l : Launch) (hlt : l.stackTraces = false) (D : va_G) (cI cJ cD : ClassId) (sa : Nat → Nat) (q : Nat → Nat) (hq : gInj q) (N : Nat) (Tn : Int32) (Ta : (Nat → Int32)) (Wg : Int32) (Wz : Int32) (Ww : Int32) (Wr : Int32) (Oa : (Nat → Int64)) (p1 : Int32) (p2 : Int32) (p3 : Int32) (r0 : Int32) (Tn9 : Int32) (Ta9 : (Nat → Int32)) (Wg9 : Int32) (Wz9 : Int32) (Ww9 : Int32) (Wr9 : Int32) (Oa9 : (Nat → Int64)) (hf : fL_loadNecklace N Tn Ta Wg Wz Ww Wr Oa p1 p2 p3 = some (r0, Tn9, Ta9, Wg9, Wz9, Ww9, Wr9, Oa9)) : Met l yL_loadNecklace wsL_loadNecklace rL_loadNecklacex (gPx D cI cJ cD sa (gA q [0, 1, 2, 13, 23]) [.ref (q 0), .int p1, .int p2, .int p3, .ref (q 23)] (w_0_1_2_13_23 q cI cJ cD Tn Ta Wg Wz Ww Wr Oa)) (gQ D (some (.int r0)) (w_0_1_2_13_23 q cI cJ cD Tn9 Ta9 Wg9 Wz9 Ww9 Wr9 Oa9) (gA q [0, 1, 2, 13, 23])) 1 6 (gA q [0, 1, 2, 13, 23]) := by
  refine g_ofWH (cc := cL_loadNecklace) (maxL := 6) (ret := (some .int)) (hh := [(0, 12, 15, 13)]) (by decide +kernel) rfl ?_
  intro p e s m args below meth c s₁ B hml hv
  obtain ⟨rfl, hP, hE, hXe⟩ := hv
  have hx := B.exec
  have hb := B.bytes
  have hr := B.returns
  have hts := atoms_spec (ws := wsL_loadNecklace) B.pre
  have hown : s.vm.findClass RL = some m.cls := findClass_of_methodNamed B.named
  have hlocks := B.notSynchronized
  have htab : c.exceptionTable.toList = [⟨0, 12, 15, 13⟩] := vx_table (x := yL_loadNecklace) B (hts _ List.mem_cons_self)
  have hS : va_S (gA q [0, 1, 2, 13, 23]) s.heap s.heap [] := va_S.rf
  have hl := lv_entry ([.ref (q 0), .int p1, .int p2, .int p3, .ref (q 23)]) (n := 6) (Nat.le_of_ble_eq_true rfl)
  rw [lg_entry_eq]
  generalize (lg_sl ([.ref (q 0), .int p1, .int p2, .int p3, .ref (q 23)]) ++ List.replicate (6 - (lg_sl ([.ref (q 0), .int p1, .int p2, .int p3, .ref (q 23)])).length) Slot.unset).toArray = ls at hl ⊢
  have hl : lv_has ls 6 [(0, .ref (q 0)), (1, .int p1), (2, .int p2), (3, .int p3), (4, .ref (q 23))] := hl
  have hDm : ∀ (z0 : Int32) (z1 : (Nat → Int32)) (z2 : Int32) (z3 : Int32) (z4 : Int32) (z5 : Int32) (z6 : (Nat → Int64)), va_D (gA q [0, 1, 2, 13, 23]) (w_0_1_2_13_23 q cI cJ cD z0 z1 z2 z3 z4 z5 z6) := fun _ _ _ _ _ _ _ => gD_of hq [0, 1, 2, 13, 23] rfl rfl rfl (fun k h => ⟨k, h, rfl⟩)
  unfold fL_loadNecklace at hf
  refine lv_aload hx hb dL_loadNecklace_0 (lv_at hl 4 rfl) ?_
  refine lv_iconst (v := (0 : Int32)) hx hb dL_loadNecklace_2 (by decide) ?_
  refine lv_aload_n hx hb dL_loadNecklace_3 rfl (lv_at hl 0 rfl) ?_
  refine lv_iload_n hx hb dL_loadNecklace_4 rfl (lv_at hl 1 rfl) ?_
  refine lv_iload_n hx hb dL_loadNecklace_5 rfl (lv_at hl 2 rfl) ?_
  refine lv_iload_n hx hb dL_loadNecklace_6 rfl (lv_at hl 3 rfl) ?_
  rcases bx_some hf with ⟨⟨e7, Tn7, Ta7, Wg7, Wz7, Ww7, Wr7⟩, hc, hf⟩ | ⟨⟨r7, Tn7, Ta7, Wg7, Wz7, Ww7, Wr7⟩, hc, hf⟩
  · try dsimp only at hf
    refine g_callX (ws' := (w_0_1_2_13_23 q cI cJ cD Tn7 Ta7 Wg7 Wz7 Ww7 Wr7 Oa)) hq [0, 1, 2, 13, 23] [0, 1, 2, 13] [.inl 0, .inl 1, .inl 2, .inl 3, .inr 4] (vx_runV (As := [.int p1, .int p2, .int p3]) (rest := [.int (0 : Int32), .ref (q 23)]) ⟨hx, hb, hml, hown, hts⟩ (kX8_loadNecklacex l hlt D cI cJ cD sa q hq N Tn Ta Wg Wz Ww Wr p1 p2 p3 e7 Tn7 Ta7 Wg7 Wz7 Ww7 Wr7 hc) (cwV 3 hts gL_loadNecklace_X8_loadNecklace rfl rfl rfl (by decide +kernel) ⟨(Nat.le_of_ble_eq_true rfl), (Nat.le_of_ble_eq_true rfl)⟩) ⟨gPx_blind, va_recv hE.1 hP (ci := 6) (q0 := 0) rfl rfl, fun U hU hW => ⟨rfl, by rw [hU]; exact hP.sub (ws' := (w_0_1_2_13 q cI cJ cD Tn Ta Wg Wz Ww Wr)) [0, 1, 2, 3] rfl, gEv.warm hW hE, gXe.go hW hS (gMono rfl) hXe hU⟩⟩ rfl rfl hl.1 rfl (lv_room (Nat.le_of_ble_eq_true rfl)) dL_loadNecklace_7 ⟨(Nat.le_of_ble_eq_true rfl), (Nat.le_of_ble_eq_true rfl)⟩) hP hS (gSub rfl) rfl rfl rfl rfl (fun ce q9 H locs hP hS hce hcv hcl => ?_)
    by_cases c_1 : e7 = 1
    · have hf := (if_pos c_1).symm.trans hf
      subst c_1
      refine vx_catch (E := "java/lang/IllegalArgumentException") (name := "java/lang/IllegalArgumentException") hown [] ⟨0, 12, 15, 13⟩ [] htab (fun _ h => nomatch h) rfl (by decide) (hts (.classLink RL 13 "java/lang/IllegalArgumentException") (by decide +kernel)) (va_Nw.use rfl (hXe.1.2.1 "java/lang/IllegalArgumentException" (by decide +kernel))) hce hcv hcl ?_
      refine lv_astore (lv' := [(5, .ref q9), (0, .ref (q 0)), (1, .int p1), (2, .int p2), (3, .int p3), (4, .ref (q 23))]) hx hb dL_loadNecklace_15 hl (by decide) rfl (fun ls hl => ?_)
      refine lv_iconst (v := (1 : Int32)) hx hb dL_loadNecklace_17 (by decide) ?_
      cases hf
      refine W.widen (k := 1) (n := 6) (Nat.le_of_ble_eq_true rfl) (Nat.le_of_ble_eq_true rfl) ?_
      exact W.iret hx hb hr (fun t ht hW => ⟨⟨rfl, by rw [ht]; exact hP⟩, hS.F ht⟩) hS.2.2 dL_loadNecklace_18
    have hf := (if_neg c_1).symm.trans hf
    exact nomatch hf
  try dsimp only at hf
  refine g_call0 (ws' := (w_0_1_2_13_23 q cI cJ cD Tn7 Ta7 Wg7 Wz7 Ww7 Wr7 Oa)) (st1 := [.int r7, .int (0 : Int32), .ref (q 23)]) hq [0, 1, 2, 13, 23] [0, 1, 2, 13] [.inl 0, .inl 1, .inl 2, .inl 3, .inr 4] (va_runV (As := [.int p1, .int p2, .int p3]) (rest := [.int (0 : Int32), .ref (q 23)]) ⟨hx, hb, hml, hown, hts⟩ (kX8_loadNecklace l D cI cJ cD q hq N Tn Ta Wg Wz Ww Wr p1 p2 p3 r7 Tn7 Ta7 Wg7 Wz7 Ww7 Wr7 hc) (cwV 3 hts gL_loadNecklace_X8_loadNecklace rfl rfl rfl (by decide +kernel) ⟨(Nat.le_of_ble_eq_true rfl), (Nat.le_of_ble_eq_true rfl)⟩) ⟨gP_blind, va_recv hE.1 hP (ci := 6) (q0 := 0) rfl rfl, fun U hU hW => ⟨rfl, by rw [hU]; exact hP.sub (ws' := (w_0_1_2_13 q cI cJ cD Tn Ta Wg Wz Ww Wr)) [0, 1, 2, 3] rfl, gEv.warm hW hE⟩⟩ rfl rfl hl.1 rfl (lv_room (Nat.le_of_ble_eq_true rfl)) dL_loadNecklace_7 ⟨Nat.zero_le _, Nat.zero_le _⟩) hP hS (gSub rfl) rfl rfl rfl rfl rfl (fun H locs hP hS => ?_)
  refine lv_i2l (v := (r7).toInt64) hx hb dL_loadNecklace_10 rfl ?_
  obtain ⟨g_2, hf⟩ := gd_some hf
  refine va_last hx hb hE.1 hP (hDm Tn7 Ta7 Wg7 Wz7 Ww7 Wr7 Oa) hS 4 1 rfl rfl (inb_in g_2) dL_loadNecklace_11 (fun H locs hP _ hS => ?_)
  have hP : va_P D vwCl (w_0_1_2_13_23 q cI cJ cD Tn7 Ta7 Wg7 Wz7 Ww7 Wr7 (vp_updL Oa ((0 : Int32)).toNatClampNeg ((r7).toInt64))) H := hP
  refine lv_goto (tgt := 19) hx hb dL_loadNecklace_12 (by decide) ?_
  refine lv_iconst (v := (0 : Int32)) hx hb dL_loadNecklace_19 (by decide) ?_
  cases hf
  refine W.widen (k := 1) (n := 6) (Nat.le_of_ble_eq_true rfl) (Nat.le_of_ble_eq_true rfl) ?_
  exact W.iret hx hb hr (fun t ht hW => ⟨⟨rfl, by rw [ht]; exact hP⟩, hS.F ht⟩) hS.2.2 dL_loadNecklace_20
set_option maxHeartbeats 4000000 in
set_option maxRecDepth 100000 in
theorem kL_letterAt (l : Launch) (hlt : l.stackTraces = false) (D : va_G) (cI cJ cD : ClassId) (sa : Nat → Nat) (q : Nat → Nat) (hq : gInj q) (N : Nat) (Tn : Int32) (Ta : (Nat → Int32)) (Oa : (Nat → Int64)) (p1 : Int32) (r0 : Int32) (Oa9 : (Nat → Int64)) (hf : fL_letterAt N Tn Ta Oa p1 = some (r0, Oa9)) : Met l yL_letterAt wsL_letterAt rL_letterAtx (gPx D cI cJ cD sa (gA q [0, 1, 2, 23]) [.ref (q 0), .int p1, .ref (q 23)] (w_0_1_2_23 q cI cJ cD Tn Ta Oa)) (gQ D (some (.int r0)) (w_0_1_2_23 q cI cJ cD Tn Ta Oa9) (gA q [0, 1, 2, 23])) 1 6 (gA q [0, 1, 2, 23]) := by
  refine g_ofWH (cc := cL_letterAt) (maxL := 4) (ret := (some .int)) (hh := [(0, 9, 12, 21)]) (by decide +kernel) rfl ?_
  intro p e s m args below meth c s₁ B hml hv
  obtain ⟨rfl, hP, hE, hXe⟩ := hv
  have hx := B.exec
  have hb := B.bytes
  have hr := B.returns
  have hts := atoms_spec (ws := wsL_letterAt) B.pre
  have hown : s.vm.findClass RL = some m.cls := findClass_of_methodNamed B.named
  have hlocks := B.notSynchronized
  have htab : c.exceptionTable.toList = [⟨0, 9, 12, 21⟩] := vx_table (x := yL_letterAt) B (hts _ List.mem_cons_self)
  have hS : va_S (gA q [0, 1, 2, 23]) s.heap s.heap [] := va_S.rf
  have hl := lv_entry ([.ref (q 0), .int p1, .ref (q 23)]) (n := 4) (Nat.le_of_ble_eq_true rfl)
  rw [lg_entry_eq]
  generalize (lg_sl ([.ref (q 0), .int p1, .ref (q 23)]) ++ List.replicate (4 - (lg_sl ([.ref (q 0), .int p1, .ref (q 23)])).length) Slot.unset).toArray = ls at hl ⊢
  have hl : lv_has ls 4 [(0, .ref (q 0)), (1, .int p1), (2, .ref (q 23))] := hl
  have hDm : ∀ (z0 : Int32) (z1 : (Nat → Int32)) (z2 : (Nat → Int64)), va_D (gA q [0, 1, 2, 23]) (w_0_1_2_23 q cI cJ cD z0 z1 z2) := fun _ _ _ => gD_of hq [0, 1, 2, 23] rfl rfl rfl (fun k h => ⟨k, h, rfl⟩)
  unfold fL_letterAt at hf
  refine lv_aload_n hx hb dL_letterAt_0 rfl (lv_at hl 2 rfl) ?_
  refine lv_iconst (v := (0 : Int32)) hx hb dL_letterAt_1 (by decide) ?_
  refine lv_aload_n hx hb dL_letterAt_2 rfl (lv_at hl 0 rfl) ?_
  refine lv_iload_n hx hb dL_letterAt_3 rfl (lv_at hl 1 rfl) ?_
  rcases bx_some hf with ⟨e4, hc, hf⟩ | ⟨r4, hc, hf⟩
  · try dsimp only at hf
    refine g_callX (ws' := (w_0_1_2_23 q cI cJ cD Tn Ta Oa)) hq [0, 1, 2, 23] [0, 1, 2] [.inl 0, .inl 1, .inl 2, .inr 3] (vx_runV (As := [.int p1]) (rest := [.int (0 : Int32), .ref (q 23)]) ⟨hx, hb, hml, hown, hts⟩ (kX8_letterAtx l hlt D cI cJ cD sa q hq N Tn Ta p1 e4 hc) (cwV 1 hts gL_letterAt_X8_letterAt rfl rfl rfl (by decide +kernel) ⟨(Nat.le_of_ble_eq_true rfl), (Nat.le_of_ble_eq_true rfl)⟩) ⟨gPx_blind, va_recv hE.1 hP (ci := 6) (q0 := 0) rfl rfl, fun U hU hW => ⟨rfl, by rw [hU]; exact hP.sub (ws' := (w_0_1_2 q cI cJ cD Tn Ta)) [0, 1, 2] rfl, gEv.warm hW hE, gXe.go hW hS (gMono rfl) hXe hU⟩⟩ rfl rfl hl.1 rfl (lv_room (Nat.le_of_ble_eq_true rfl)) dL_letterAt_4 ⟨(Nat.le_of_ble_eq_true rfl), (Nat.le_of_ble_eq_true rfl)⟩) hP hS (gSub rfl) rfl rfl rfl rfl (fun ce q9 H locs hP hS hce hcv hcl => ?_)
    by_cases c_1 : e4 = 0
    · have hf := (if_pos c_1).symm.trans hf
      subst c_1
      refine vx_catch (E := "java/lang/IndexOutOfBoundsException") (name := "java/lang/IndexOutOfBoundsException") hown [] ⟨0, 9, 12, 21⟩ [] htab (fun _ h => nomatch h) rfl (by decide) (hts (.classLink RL 21 "java/lang/IndexOutOfBoundsException") (by decide +kernel)) (va_Nw.use rfl (hXe.1.2.1 "java/lang/IndexOutOfBoundsException" (by decide +kernel))) hce hcv hcl ?_
      refine lv_astore_n (lv' := [(3, .ref q9), (0, .ref (q 0)), (1, .int p1), (2, .ref (q 23))]) hx hb dL_letterAt_12 rfl hl (by decide) rfl (fun ls hl => ?_)
      refine lv_iconst (v := (1 : Int32)) hx hb dL_letterAt_13 (by decide) ?_
      cases hf
      refine W.widen (k := 1) (n := 6) (Nat.le_of_ble_eq_true rfl) (Nat.le_of_ble_eq_true rfl) ?_
      exact W.iret hx hb hr (fun t ht hW => ⟨⟨rfl, by rw [ht]; exact hP⟩, hS.F ht⟩) hS.2.2 dL_letterAt_14
    have hf := (if_neg c_1).symm.trans hf
    exact nomatch hf
  try dsimp only at hf
  refine g_call0 (ws' := (w_0_1_2_23 q cI cJ cD Tn Ta Oa)) (st1 := [.int r4, .int (0 : Int32), .ref (q 23)]) hq [0, 1, 2, 23] [0, 1, 2] [.inl 0, .inl 1, .inl 2, .inr 3] (va_runV (As := [.int p1]) (rest := [.int (0 : Int32), .ref (q 23)]) ⟨hx, hb, hml, hown, hts⟩ (kX8_letterAt l D cI cJ cD q hq N Tn Ta p1 r4 hc) (cwV 1 hts gL_letterAt_X8_letterAt rfl rfl rfl (by decide +kernel) ⟨(Nat.le_of_ble_eq_true rfl), (Nat.le_of_ble_eq_true rfl)⟩) ⟨gP_blind, va_recv hE.1 hP (ci := 6) (q0 := 0) rfl rfl, fun U hU hW => ⟨rfl, by rw [hU]; exact hP.sub (ws' := (w_0_1_2 q cI cJ cD Tn Ta)) [0, 1, 2] rfl, gEv.warm hW hE⟩⟩ rfl rfl hl.1 rfl (lv_room (Nat.le_of_ble_eq_true rfl)) dL_letterAt_4 ⟨Nat.zero_le _, Nat.zero_le _⟩) hP hS (gSub rfl) rfl rfl rfl rfl rfl (fun H locs hP hS => ?_)
  refine lv_i2l (v := (r4).toInt64) hx hb dL_letterAt_7 rfl ?_
  obtain ⟨g_2, hf⟩ := gd_some hf
  refine va_last hx hb hE.1 hP (hDm Tn Ta Oa) hS 3 1 rfl rfl (inb_in g_2) dL_letterAt_8 (fun H locs hP _ hS => ?_)
  have hP : va_P D vwCl (w_0_1_2_23 q cI cJ cD Tn Ta (vp_updL Oa ((0 : Int32)).toNatClampNeg ((r4).toInt64))) H := hP
  refine lv_goto (tgt := 15) hx hb dL_letterAt_9 (by decide) ?_
  refine lv_iconst (v := (0 : Int32)) hx hb dL_letterAt_15 (by decide) ?_
  cases hf
  refine W.widen (k := 1) (n := 6) (Nat.le_of_ble_eq_true rfl) (Nat.le_of_ble_eq_true rfl) ?_
  exact W.iret hx hb hr (fun t ht hW => ⟨⟨rfl, by rw [ht]; exact hP⟩, hS.F ht⟩) hS.2.2 dL_letterAt_16
set_option maxHeartbeats 4000000 in
set_option maxRecDepth 100000 in
theorem kL_compare (l : Launch) (hlt : l.stackTraces = false) (D : va_G) (cI cJ cD : ClassId) (sa : Nat → Nat) (q : Nat → Nat) (hq : gInj q) (N : Nat) (Tn : Int32) (Ta : (Nat → Int32)) (Oa : (Nat → Int64)) (p1 : Int32) (p2 : Int32) (p3 : Int32) (p4 : Int32) (r0 : Int32) (Oa9 : (Nat → Int64)) (hf : fL_compare N Tn Ta Oa p1 p2 p3 p4 = some (r0, Oa9)) : Met l yL_compare wsL_compare rL_comparex (gPx D cI cJ cD sa (gA q [0, 1, 2, 23]) [.ref (q 0), .int p1, .int p2, .int p3, .int p4, .ref (q 23)] (w_0_1_2_23 q cI cJ cD Tn Ta Oa)) (gQ D (some (.int r0)) (w_0_1_2_23 q cI cJ cD Tn Ta Oa9) (gA q [0, 1, 2, 23])) 1 6 (gA q [0, 1, 2, 23]) := by
  refine g_ofWH (cc := cL_compare) (maxL := 7) (ret := (some .int)) (hh := [(0, 14, 17, 21)]) (by decide +kernel) rfl ?_
  intro p e s m args below meth c s₁ B hml hv
  obtain ⟨rfl, hP, hE, hXe⟩ := hv
  have hx := B.exec
  have hb := B.bytes
  have hr := B.returns
  have hts := atoms_spec (ws := wsL_compare) B.pre
  have hown : s.vm.findClass RL = some m.cls := findClass_of_methodNamed B.named
  have hlocks := B.notSynchronized
  have htab : c.exceptionTable.toList = [⟨0, 14, 17, 21⟩] := vx_table (x := yL_compare) B (hts _ List.mem_cons_self)
  have hS : va_S (gA q [0, 1, 2, 23]) s.heap s.heap [] := va_S.rf
  have hl := lv_entry ([.ref (q 0), .int p1, .int p2, .int p3, .int p4, .ref (q 23)]) (n := 7) (Nat.le_of_ble_eq_true rfl)
  rw [lg_entry_eq]
  generalize (lg_sl ([.ref (q 0), .int p1, .int p2, .int p3, .int p4, .ref (q 23)]) ++ List.replicate (7 - (lg_sl ([.ref (q 0), .int p1, .int p2, .int p3, .int p4, .ref (q 23)])).length) Slot.unset).toArray = ls at hl ⊢
  have hl : lv_has ls 7 [(0, .ref (q 0)), (1, .int p1), (2, .int p2), (3, .int p3), (4, .int p4), (5, .ref (q 23))] := hl
  have hDm : ∀ (z0 : Int32) (z1 : (Nat → Int32)) (z2 : (Nat → Int64)), va_D (gA q [0, 1, 2, 23]) (w_0_1_2_23 q cI cJ cD z0 z1 z2) := fun _ _ _ => gD_of hq [0, 1, 2, 23] rfl rfl rfl (fun k h => ⟨k, h, rfl⟩)
  unfold fL_compare at hf
  refine lv_aload hx hb dL_compare_0 (lv_at hl 5 rfl) ?_
  refine lv_iconst (v := (0 : Int32)) hx hb dL_compare_2 (by decide) ?_
  refine lv_aload_n hx hb dL_compare_3 rfl (lv_at hl 0 rfl) ?_
  refine lv_iload_n hx hb dL_compare_4 rfl (lv_at hl 1 rfl) ?_
  refine lv_iload_n hx hb dL_compare_5 rfl (lv_at hl 2 rfl) ?_
  refine lv_iload_n hx hb dL_compare_6 rfl (lv_at hl 3 rfl) ?_
  refine lv_iload hx hb dL_compare_7 (lv_at hl 4 rfl) ?_
  rcases bx_some hf with ⟨e9, hc, hf⟩ | ⟨r9, hc, hf⟩
  · try dsimp only at hf
    refine g_callX (ws' := (w_0_1_2_23 q cI cJ cD Tn Ta Oa)) hq [0, 1, 2, 23] [0, 1, 2] [.inl 0, .inl 1, .inl 2, .inr 3] (vx_runV (As := [.int p1, .int p2, .int p3, .int p4]) (rest := [.int (0 : Int32), .ref (q 23)]) ⟨hx, hb, hml, hown, hts⟩ (kX8_comparex l hlt D cI cJ cD sa q hq N Tn Ta p1 p2 p3 p4 e9 hc) (cwV 4 hts gL_compare_X8_compare rfl rfl rfl (by decide +kernel) ⟨(Nat.le_of_ble_eq_true rfl), (Nat.le_of_ble_eq_true rfl)⟩) ⟨gPx_blind, va_recv hE.1 hP (ci := 6) (q0 := 0) rfl rfl, fun U hU hW => ⟨rfl, by rw [hU]; exact hP.sub (ws' := (w_0_1_2 q cI cJ cD Tn Ta)) [0, 1, 2] rfl, gEv.warm hW hE, gXe.go hW hS (gMono rfl) hXe hU⟩⟩ rfl rfl hl.1 rfl (lv_room (Nat.le_of_ble_eq_true rfl)) dL_compare_9 ⟨(Nat.le_of_ble_eq_true rfl), (Nat.le_of_ble_eq_true rfl)⟩) hP hS (gSub rfl) rfl rfl rfl rfl (fun ce q9 H locs hP hS hce hcv hcl => ?_)
    by_cases c_1 : e9 = 0
    · have hf := (if_pos c_1).symm.trans hf
      subst c_1
      refine vx_catch (E := "java/lang/IndexOutOfBoundsException") (name := "java/lang/IndexOutOfBoundsException") hown [] ⟨0, 14, 17, 21⟩ [] htab (fun _ h => nomatch h) rfl (by decide) (hts (.classLink RL 21 "java/lang/IndexOutOfBoundsException") (by decide +kernel)) (va_Nw.use rfl (hXe.1.2.1 "java/lang/IndexOutOfBoundsException" (by decide +kernel))) hce hcv hcl ?_
      refine lv_astore (lv' := [(6, .ref q9), (0, .ref (q 0)), (1, .int p1), (2, .int p2), (3, .int p3), (4, .int p4), (5, .ref (q 23))]) hx hb dL_compare_17 hl (by decide) rfl (fun ls hl => ?_)
      refine lv_iconst (v := (1 : Int32)) hx hb dL_compare_19 (by decide) ?_
      cases hf
      refine W.widen (k := 1) (n := 6) (Nat.le_of_ble_eq_true rfl) (Nat.le_of_ble_eq_true rfl) ?_
      exact W.iret hx hb hr (fun t ht hW => ⟨⟨rfl, by rw [ht]; exact hP⟩, hS.F ht⟩) hS.2.2 dL_compare_20
    have hf := (if_neg c_1).symm.trans hf
    exact nomatch hf
  try dsimp only at hf
  refine g_call0 (ws' := (w_0_1_2_23 q cI cJ cD Tn Ta Oa)) (st1 := [.int r9, .int (0 : Int32), .ref (q 23)]) hq [0, 1, 2, 23] [0, 1, 2] [.inl 0, .inl 1, .inl 2, .inr 3] (va_runV (As := [.int p1, .int p2, .int p3, .int p4]) (rest := [.int (0 : Int32), .ref (q 23)]) ⟨hx, hb, hml, hown, hts⟩ (kX8_compare l D cI cJ cD q hq N Tn Ta p1 p2 p3 p4 r9 hc) (cwV 4 hts gL_compare_X8_compare rfl rfl rfl (by decide +kernel) ⟨(Nat.le_of_ble_eq_true rfl), (Nat.le_of_ble_eq_true rfl)⟩) ⟨gP_blind, va_recv hE.1 hP (ci := 6) (q0 := 0) rfl rfl, fun U hU hW => ⟨rfl, by rw [hU]; exact hP.sub (ws' := (w_0_1_2 q cI cJ cD Tn Ta)) [0, 1, 2] rfl, gEv.warm hW hE⟩⟩ rfl rfl hl.1 rfl (lv_room (Nat.le_of_ble_eq_true rfl)) dL_compare_9 ⟨Nat.zero_le _, Nat.zero_le _⟩) hP hS (gSub rfl) rfl rfl rfl rfl rfl (fun H locs hP hS => ?_)
  refine lv_i2l (v := (r9).toInt64) hx hb dL_compare_12 rfl ?_
  obtain ⟨g_2, hf⟩ := gd_some hf
  refine va_last hx hb hE.1 hP (hDm Tn Ta Oa) hS 3 1 rfl rfl (inb_in g_2) dL_compare_13 (fun H locs hP _ hS => ?_)
  have hP : va_P D vwCl (w_0_1_2_23 q cI cJ cD Tn Ta (vp_updL Oa ((0 : Int32)).toNatClampNeg ((r9).toInt64))) H := hP
  refine lv_goto (tgt := 21) hx hb dL_compare_14 (by decide) ?_
  refine lv_iconst (v := (0 : Int32)) hx hb dL_compare_21 (by decide) ?_
  cases hf
  refine W.widen (k := 1) (n := 6) (Nat.le_of_ble_eq_true rfl) (Nat.le_of_ble_eq_true rfl) ?_
  exact W.iret hx hb hr (fun t ht hW => ⟨⟨rfl, by rw [ht]; exact hP⟩, hS.F ht⟩) hS.2.2 dL_compare_22
set_option maxHeartbeats 4000000 in
set_option maxRecDepth 100000 in
theorem kL_commonPrefix (l : Launch) (hlt : l.stackTraces = false) (D : va_G) (cI cJ cD : ClassId) (sa : Nat → Nat) (q : Nat → Nat) (hq : gInj q) (N : Nat) (Tn : Int32) (Ta : (Nat → Int32)) (Oa : (Nat → Int64)) (p1 : Int32) (p2 : Int32) (r0 : Int32) (Oa9 : (Nat → Int64)) (hf : fL_commonPrefix N Tn Ta Oa p1 p2 = some (r0, Oa9)) : Met l yL_commonPrefix wsL_commonPrefix rL_commonPrefixx (gPx D cI cJ cD sa (gA q [0, 1, 2, 23]) [.ref (q 0), .int p1, .int p2, .ref (q 23)] (w_0_1_2_23 q cI cJ cD Tn Ta Oa)) (gQ D (some (.int r0)) (w_0_1_2_23 q cI cJ cD Tn Ta Oa9) (gA q [0, 1, 2, 23])) 1 6 (gA q [0, 1, 2, 23]) := by
  refine g_ofWH (cc := cL_commonPrefix) (maxL := 5) (ret := (some .int)) (hh := [(0, 10, 13, 21)]) (by decide +kernel) rfl ?_
  intro p e s m args below meth c s₁ B hml hv
  obtain ⟨rfl, hP, hE, hXe⟩ := hv
  have hx := B.exec
  have hb := B.bytes
  have hr := B.returns
  have hts := atoms_spec (ws := wsL_commonPrefix) B.pre
  have hown : s.vm.findClass RL = some m.cls := findClass_of_methodNamed B.named
  have hlocks := B.notSynchronized
  have htab : c.exceptionTable.toList = [⟨0, 10, 13, 21⟩] := vx_table (x := yL_commonPrefix) B (hts _ List.mem_cons_self)
  have hS : va_S (gA q [0, 1, 2, 23]) s.heap s.heap [] := va_S.rf
  have hl := lv_entry ([.ref (q 0), .int p1, .int p2, .ref (q 23)]) (n := 5) (Nat.le_of_ble_eq_true rfl)
  rw [lg_entry_eq]
  generalize (lg_sl ([.ref (q 0), .int p1, .int p2, .ref (q 23)]) ++ List.replicate (5 - (lg_sl ([.ref (q 0), .int p1, .int p2, .ref (q 23)])).length) Slot.unset).toArray = ls at hl ⊢
  have hl : lv_has ls 5 [(0, .ref (q 0)), (1, .int p1), (2, .int p2), (3, .ref (q 23))] := hl
  have hDm : ∀ (z0 : Int32) (z1 : (Nat → Int32)) (z2 : (Nat → Int64)), va_D (gA q [0, 1, 2, 23]) (w_0_1_2_23 q cI cJ cD z0 z1 z2) := fun _ _ _ => gD_of hq [0, 1, 2, 23] rfl rfl rfl (fun k h => ⟨k, h, rfl⟩)
  unfold fL_commonPrefix at hf
  refine lv_aload_n hx hb dL_commonPrefix_0 rfl (lv_at hl 3 rfl) ?_
  refine lv_iconst (v := (0 : Int32)) hx hb dL_commonPrefix_1 (by decide) ?_
  refine lv_aload_n hx hb dL_commonPrefix_2 rfl (lv_at hl 0 rfl) ?_
  refine lv_iload_n hx hb dL_commonPrefix_3 rfl (lv_at hl 1 rfl) ?_
  refine lv_iload_n hx hb dL_commonPrefix_4 rfl (lv_at hl 2 rfl) ?_
  rcases bx_some hf with ⟨e5, hc, hf⟩ | ⟨r5, hc, hf⟩
  · try dsimp only at hf
    refine g_callX (ws' := (w_0_1_2_23 q cI cJ cD Tn Ta Oa)) hq [0, 1, 2, 23] [0, 1, 2] [.inl 0, .inl 1, .inl 2, .inr 3] (vx_runV (As := [.int p1, .int p2]) (rest := [.int (0 : Int32), .ref (q 23)]) ⟨hx, hb, hml, hown, hts⟩ (kX8_commonPrefixx l hlt D cI cJ cD sa q hq N Tn Ta p1 p2 e5 hc) (cwV 2 hts gL_commonPrefix_X8_commonPrefix rfl rfl rfl (by decide +kernel) ⟨(Nat.le_of_ble_eq_true rfl), (Nat.le_of_ble_eq_true rfl)⟩) ⟨gPx_blind, va_recv hE.1 hP (ci := 6) (q0 := 0) rfl rfl, fun U hU hW => ⟨rfl, by rw [hU]; exact hP.sub (ws' := (w_0_1_2 q cI cJ cD Tn Ta)) [0, 1, 2] rfl, gEv.warm hW hE, gXe.go hW hS (gMono rfl) hXe hU⟩⟩ rfl rfl hl.1 rfl (lv_room (Nat.le_of_ble_eq_true rfl)) dL_commonPrefix_5 ⟨(Nat.le_of_ble_eq_true rfl), (Nat.le_of_ble_eq_true rfl)⟩) hP hS (gSub rfl) rfl rfl rfl rfl (fun ce q9 H locs hP hS hce hcv hcl => ?_)
    by_cases c_1 : e5 = 0
    · have hf := (if_pos c_1).symm.trans hf
      subst c_1
      refine vx_catch (E := "java/lang/IndexOutOfBoundsException") (name := "java/lang/IndexOutOfBoundsException") hown [] ⟨0, 10, 13, 21⟩ [] htab (fun _ h => nomatch h) rfl (by decide) (hts (.classLink RL 21 "java/lang/IndexOutOfBoundsException") (by decide +kernel)) (va_Nw.use rfl (hXe.1.2.1 "java/lang/IndexOutOfBoundsException" (by decide +kernel))) hce hcv hcl ?_
      refine lv_astore (lv' := [(4, .ref q9), (0, .ref (q 0)), (1, .int p1), (2, .int p2), (3, .ref (q 23))]) hx hb dL_commonPrefix_13 hl (by decide) rfl (fun ls hl => ?_)
      refine lv_iconst (v := (1 : Int32)) hx hb dL_commonPrefix_15 (by decide) ?_
      cases hf
      refine W.widen (k := 1) (n := 6) (Nat.le_of_ble_eq_true rfl) (Nat.le_of_ble_eq_true rfl) ?_
      exact W.iret hx hb hr (fun t ht hW => ⟨⟨rfl, by rw [ht]; exact hP⟩, hS.F ht⟩) hS.2.2 dL_commonPrefix_16
    have hf := (if_neg c_1).symm.trans hf
    exact nomatch hf
  try dsimp only at hf
  refine g_call0 (ws' := (w_0_1_2_23 q cI cJ cD Tn Ta Oa)) (st1 := [.int r5, .int (0 : Int32), .ref (q 23)]) hq [0, 1, 2, 23] [0, 1, 2] [.inl 0, .inl 1, .inl 2, .inr 3] (va_runV (As := [.int p1, .int p2]) (rest := [.int (0 : Int32), .ref (q 23)]) ⟨hx, hb, hml, hown, hts⟩ (kX8_commonPrefix l D cI cJ cD q hq N Tn Ta p1 p2 r5 hc) (cwV 2 hts gL_commonPrefix_X8_commonPrefix rfl rfl rfl (by decide +kernel) ⟨(Nat.le_of_ble_eq_true rfl), (Nat.le_of_ble_eq_true rfl)⟩) ⟨gP_blind, va_recv hE.1 hP (ci := 6) (q0 := 0) rfl rfl, fun U hU hW => ⟨rfl, by rw [hU]; exact hP.sub (ws' := (w_0_1_2 q cI cJ cD Tn Ta)) [0, 1, 2] rfl, gEv.warm hW hE⟩⟩ rfl rfl hl.1 rfl (lv_room (Nat.le_of_ble_eq_true rfl)) dL_commonPrefix_5 ⟨Nat.zero_le _, Nat.zero_le _⟩) hP hS (gSub rfl) rfl rfl rfl rfl rfl (fun H locs hP hS => ?_)
  refine lv_i2l (v := (r5).toInt64) hx hb dL_commonPrefix_8 rfl ?_
  obtain ⟨g_2, hf⟩ := gd_some hf
  refine va_last hx hb hE.1 hP (hDm Tn Ta Oa) hS 3 1 rfl rfl (inb_in g_2) dL_commonPrefix_9 (fun H locs hP _ hS => ?_)
  have hP : va_P D vwCl (w_0_1_2_23 q cI cJ cD Tn Ta (vp_updL Oa ((0 : Int32)).toNatClampNeg ((r5).toInt64))) H := hP
  refine lv_goto (tgt := 17) hx hb dL_commonPrefix_10 (by decide) ?_
  refine lv_iconst (v := (0 : Int32)) hx hb dL_commonPrefix_17 (by decide) ?_
  cases hf
  refine W.widen (k := 1) (n := 6) (Nat.le_of_ble_eq_true rfl) (Nat.le_of_ble_eq_true rfl) ?_
  exact W.iret hx hb hr (fun t ht hW => ⟨⟨rfl, by rw [ht]; exact hP⟩, hS.F ht⟩) hS.2.2 dL_commonPrefix_18
set_option maxHeartbeats 4000000 in
set_option maxRecDepth 100000 in
theorem kL_isLyndon (l : Launch) (hlt : l.stackTraces = false) (D : va_G) (cI cJ cD : ClassId) (sa : Nat → Nat) (q : Nat → Nat) (hq : gInj q) (N : Nat) (Tn : Int32) (Ta : (Nat → Int32)) (Oa : (Nat → Int64)) (p1 : Int32) (p2 : Int32) (r0 : Int32) (Oa9 : (Nat → Int64)) (hf : fL_isLyndon N Tn Ta Oa p1 p2 = some (r0, Oa9)) : Met l yL_isLyndon wsL_isLyndon rL_isLyndonx (gPx D cI cJ cD sa (gA q [0, 1, 2, 23]) [.ref (q 0), .int p1, .int p2, .ref (q 23)] (w_0_1_2_23 q cI cJ cD Tn Ta Oa)) (gQ D (some (.int r0)) (w_0_1_2_23 q cI cJ cD Tn Ta Oa9) (gA q [0, 1, 2, 23])) 1 6 (gA q [0, 1, 2, 23]) := by
  refine g_ofWH (cc := cL_isLyndon) (maxL := 5) (ret := (some .int)) (hh := [(0, 17, 20, 21)]) (by decide +kernel) rfl ?_
  intro p e s m args below meth c s₁ B hml hv
  obtain ⟨rfl, hP, hE, hXe⟩ := hv
  have hx := B.exec
  have hb := B.bytes
  have hr := B.returns
  have hts := atoms_spec (ws := wsL_isLyndon) B.pre
  have hown : s.vm.findClass RL = some m.cls := findClass_of_methodNamed B.named
  have hlocks := B.notSynchronized
  have htab : c.exceptionTable.toList = [⟨0, 17, 20, 21⟩] := vx_table (x := yL_isLyndon) B (hts _ List.mem_cons_self)
  have hS : va_S (gA q [0, 1, 2, 23]) s.heap s.heap [] := va_S.rf
  have hl := lv_entry ([.ref (q 0), .int p1, .int p2, .ref (q 23)]) (n := 5) (Nat.le_of_ble_eq_true rfl)
  rw [lg_entry_eq]
  generalize (lg_sl ([.ref (q 0), .int p1, .int p2, .ref (q 23)]) ++ List.replicate (5 - (lg_sl ([.ref (q 0), .int p1, .int p2, .ref (q 23)])).length) Slot.unset).toArray = ls at hl ⊢
  have hl : lv_has ls 5 [(0, .ref (q 0)), (1, .int p1), (2, .int p2), (3, .ref (q 23))] := hl
  have hDm : ∀ (z0 : Int32) (z1 : (Nat → Int32)) (z2 : (Nat → Int64)), va_D (gA q [0, 1, 2, 23]) (w_0_1_2_23 q cI cJ cD z0 z1 z2) := fun _ _ _ => gD_of hq [0, 1, 2, 23] rfl rfl rfl (fun k h => ⟨k, h, rfl⟩)
  have J16 : ∀ (Oa : (Nat → Int64)) (y1 : Int32) (y2 : Int64), fL_isLyndon_J16 N Tn Ta Oa y1 y2 = some (r0, Oa9) → ∀ (H : Heap) (locs : List Loc), va_P D vwCl (w_0_1_2_23 q cI cJ cD Tn Ta Oa) H → va_S (gA q [0, 1, 2, 23]) s.heap H locs → ∀ ls : Array Slot, lv_has ls 5 [] → W p l e (headSpec wsL_isLyndon rL_isLyndonx).room s m ([.ref (q 0), .int p1, .int p2, .ref (q 23)] : List Value).toArray below meth c H locs 0 0 (MQ below (gQ D (some (.int r0)) (w_0_1_2_23 q cI cJ cD Tn Ta Oa9) (gA q [0, 1, 2, 23])) ([.ref (q 0), .int p1, .int p2, .ref (q 23)] : List Value).toArray s 1 6 (gA q [0, 1, 2, 23])) (F0 m 16 ls [.long y2, .int y1, .ref (q 23)]) := by
    intro Oa y1 y2 hf H locs hP hS ls hl
    unfold fL_isLyndon_J16 at hf
    obtain ⟨g_1, hf⟩ := gd_some hf
    refine va_last hx hb hE.1 hP (hDm Tn Ta Oa) hS 3 1 rfl rfl (inb_in g_1) dL_isLyndon_16 (fun H locs hP _ hS => ?_)
    have hP : va_P D vwCl (w_0_1_2_23 q cI cJ cD Tn Ta (vp_updL Oa (y1).toNatClampNeg y2)) H := hP
    refine lv_goto (tgt := 24) hx hb dL_isLyndon_17 (by decide) ?_
    refine lv_iconst (v := (0 : Int32)) hx hb dL_isLyndon_24 (by decide) ?_
    cases hf
    refine W.widen (k := 1) (n := 6) (Nat.le_of_ble_eq_true rfl) (Nat.le_of_ble_eq_true rfl) ?_
    exact W.iret hx hb hr (fun t ht hW => ⟨⟨rfl, by rw [ht]; exact hP⟩, hS.F ht⟩) hS.2.2 dL_isLyndon_25
  unfold fL_isLyndon at hf
  refine lv_aload_n hx hb dL_isLyndon_0 rfl (lv_at hl 3 rfl) ?_
  refine lv_iconst (v := (0 : Int32)) hx hb dL_isLyndon_1 (by decide) ?_
  refine lv_aload_n hx hb dL_isLyndon_2 rfl (lv_at hl 0 rfl) ?_
  refine lv_iload_n hx hb dL_isLyndon_3 rfl (lv_at hl 1 rfl) ?_
  refine lv_iload_n hx hb dL_isLyndon_4 rfl (lv_at hl 2 rfl) ?_
  rcases bx_some hf with ⟨e5, hc, hf⟩ | ⟨r5, hc, hf⟩
  · try dsimp only at hf
    refine g_callX (ws' := (w_0_1_2_23 q cI cJ cD Tn Ta Oa)) hq [0, 1, 2, 23] [0, 1, 2] [.inl 0, .inl 1, .inl 2, .inr 3] (vx_runV (As := [.int p1, .int p2]) (rest := [.int (0 : Int32), .ref (q 23)]) ⟨hx, hb, hml, hown, hts⟩ (kX8_isLyndonx l hlt D cI cJ cD sa q hq N Tn Ta p1 p2 e5 hc) (cwV 2 hts gL_isLyndon_X8_isLyndon rfl rfl rfl (by decide +kernel) ⟨(Nat.le_of_ble_eq_true rfl), (Nat.le_of_ble_eq_true rfl)⟩) ⟨gPx_blind, va_recv hE.1 hP (ci := 6) (q0 := 0) rfl rfl, fun U hU hW => ⟨rfl, by rw [hU]; exact hP.sub (ws' := (w_0_1_2 q cI cJ cD Tn Ta)) [0, 1, 2] rfl, gEv.warm hW hE, gXe.go hW hS (gMono rfl) hXe hU⟩⟩ rfl rfl hl.1 rfl (lv_room (Nat.le_of_ble_eq_true rfl)) dL_isLyndon_5 ⟨(Nat.le_of_ble_eq_true rfl), (Nat.le_of_ble_eq_true rfl)⟩) hP hS (gSub rfl) rfl rfl rfl rfl (fun ce q9 H locs hP hS hce hcv hcl => ?_)
    by_cases c_2 : e5 = 0
    · have hf := (if_pos c_2).symm.trans hf
      subst c_2
      refine vx_catch (E := "java/lang/IndexOutOfBoundsException") (name := "java/lang/IndexOutOfBoundsException") hown [] ⟨0, 17, 20, 21⟩ [] htab (fun _ h => nomatch h) rfl (by decide) (hts (.classLink RL 21 "java/lang/IndexOutOfBoundsException") (by decide +kernel)) (va_Nw.use rfl (hXe.1.2.1 "java/lang/IndexOutOfBoundsException" (by decide +kernel))) hce hcv hcl ?_
      refine lv_astore (lv' := [(4, .ref q9), (0, .ref (q 0)), (1, .int p1), (2, .int p2), (3, .ref (q 23))]) hx hb dL_isLyndon_20 hl (by decide) rfl (fun ls hl => ?_)
      refine lv_iconst (v := (1 : Int32)) hx hb dL_isLyndon_22 (by decide) ?_
      cases hf
      refine W.widen (k := 1) (n := 6) (Nat.le_of_ble_eq_true rfl) (Nat.le_of_ble_eq_true rfl) ?_
      exact W.iret hx hb hr (fun t ht hW => ⟨⟨rfl, by rw [ht]; exact hP⟩, hS.F ht⟩) hS.2.2 dL_isLyndon_23
    have hf := (if_neg c_2).symm.trans hf
    exact nomatch hf
  try dsimp only at hf
  refine g_call0 (ws' := (w_0_1_2_23 q cI cJ cD Tn Ta Oa)) (st1 := [.int r5, .int (0 : Int32), .ref (q 23)]) hq [0, 1, 2, 23] [0, 1, 2] [.inl 0, .inl 1, .inl 2, .inr 3] (va_runV (As := [.int p1, .int p2]) (rest := [.int (0 : Int32), .ref (q 23)]) ⟨hx, hb, hml, hown, hts⟩ (kX8_isLyndon l D cI cJ cD q hq N Tn Ta p1 p2 r5 hc) (cwV 2 hts gL_isLyndon_X8_isLyndon rfl rfl rfl (by decide +kernel) ⟨(Nat.le_of_ble_eq_true rfl), (Nat.le_of_ble_eq_true rfl)⟩) ⟨gP_blind, va_recv hE.1 hP (ci := 6) (q0 := 0) rfl rfl, fun U hU hW => ⟨rfl, by rw [hU]; exact hP.sub (ws' := (w_0_1_2 q cI cJ cD Tn Ta)) [0, 1, 2] rfl, gEv.warm hW hE⟩⟩ rfl rfl hl.1 rfl (lv_room (Nat.le_of_ble_eq_true rfl)) dL_isLyndon_5 ⟨Nat.zero_le _, Nat.zero_le _⟩) hP hS (gSub rfl) rfl rfl rfl rfl rfl (fun H locs hP hS => ?_)
  refine lv_if_eq (tgt := 15) hx hb dL_isLyndon_8 (by decide) (fun c_3 => ?_) (fun c_3 => ?_)
  · have hf := (if_pos c_3).symm.trans hf
    refine lv_lconst (v := (0 : Int64)) hx hb dL_isLyndon_15 (by decide) ?_
    exact J16 Oa (0 : Int32) (0 : Int64) hf _ _ hP hS _ (lv_sub hl [] rfl)
  · have hf := (if_neg c_3).symm.trans hf
    refine lv_lconst (v := (1 : Int64)) hx hb dL_isLyndon_11 (by decide) ?_
    refine lv_goto (tgt := 16) hx hb dL_isLyndon_12 (by decide) ?_
    exact J16 Oa (0 : Int32) (1 : Int64) hf _ _ hP hS _ (lv_sub hl [] rfl)
set_option maxHeartbeats 4000000 in
set_option maxRecDepth 100000 in
theorem kL_factorStart (l : Launch) (hlt : l.stackTraces = false) (D : va_G) (cI cJ cD : ClassId) (sa : Nat → Nat) (q : Nat → Nat) (hq : gInj q) (N : Nat) (Tn : Int32) (Ta : (Nat → Int32)) (Fn : Int32) (Fa : (Nat → Int32)) (Oa : (Nat → Int64)) (p1 : Int32) (r0 : Int32) (Fn9 : Int32) (Fa9 : (Nat → Int32)) (Oa9 : (Nat → Int64)) (hf : fL_factorStart N Tn Ta Fn Fa Oa p1 = some (r0, Fn9, Fa9, Oa9)) : Met l yL_factorStart wsL_factorStart rL_factorStartx (gPx D cI cJ cD sa (gA q [0, 1, 2, 3, 4, 23]) [.ref (q 0), .int p1, .ref (q 23)] (w_0_1_2_3_4_23 q cI cJ cD Tn Ta Fn Fa Oa)) (gQ D (some (.int r0)) (w_0_1_2_3_4_23 q cI cJ cD Tn Ta Fn9 Fa9 Oa9) (gA q [0, 1, 2, 3, 4, 23])) 1 6 (gA q [0, 1, 2, 3, 4, 23]) := by
  refine g_ofWH (cc := cL_factorStart) (maxL := 4) (ret := (some .int)) (hh := [(0, 9, 12, 21)]) (by decide +kernel) rfl ?_
  intro p e s m args below meth c s₁ B hml hv
  obtain ⟨rfl, hP, hE, hXe⟩ := hv
  have hx := B.exec
  have hb := B.bytes
  have hr := B.returns
  have hts := atoms_spec (ws := wsL_factorStart) B.pre
  have hown : s.vm.findClass RL = some m.cls := findClass_of_methodNamed B.named
  have hlocks := B.notSynchronized
  have htab : c.exceptionTable.toList = [⟨0, 9, 12, 21⟩] := vx_table (x := yL_factorStart) B (hts _ List.mem_cons_self)
  have hS : va_S (gA q [0, 1, 2, 3, 4, 23]) s.heap s.heap [] := va_S.rf
  have hl := lv_entry ([.ref (q 0), .int p1, .ref (q 23)]) (n := 4) (Nat.le_of_ble_eq_true rfl)
  rw [lg_entry_eq]
  generalize (lg_sl ([.ref (q 0), .int p1, .ref (q 23)]) ++ List.replicate (4 - (lg_sl ([.ref (q 0), .int p1, .ref (q 23)])).length) Slot.unset).toArray = ls at hl ⊢
  have hl : lv_has ls 4 [(0, .ref (q 0)), (1, .int p1), (2, .ref (q 23))] := hl
  have hDm : ∀ (z0 : Int32) (z1 : (Nat → Int32)) (z2 : Int32) (z3 : (Nat → Int32)) (z4 : (Nat → Int64)), va_D (gA q [0, 1, 2, 3, 4, 23]) (w_0_1_2_3_4_23 q cI cJ cD z0 z1 z2 z3 z4) := fun _ _ _ _ _ => gD_of hq [0, 1, 2, 3, 4, 23] rfl rfl rfl (fun k h => ⟨k, h, rfl⟩)
  unfold fL_factorStart at hf
  refine lv_aload_n hx hb dL_factorStart_0 rfl (lv_at hl 2 rfl) ?_
  refine lv_iconst (v := (0 : Int32)) hx hb dL_factorStart_1 (by decide) ?_
  refine lv_aload_n hx hb dL_factorStart_2 rfl (lv_at hl 0 rfl) ?_
  refine lv_iload_n hx hb dL_factorStart_3 rfl (lv_at hl 1 rfl) ?_
  rcases bx_some hf with ⟨⟨e4, Fn4, Fa4⟩, hc, hf⟩ | ⟨⟨r4, Fn4, Fa4⟩, hc, hf⟩
  · try dsimp only at hf
    refine g_callX (ws' := (w_0_1_2_3_4_23 q cI cJ cD Tn Ta Fn4 Fa4 Oa)) hq [0, 1, 2, 3, 4, 23] [0, 1, 2, 3, 4] [.inl 0, .inl 1, .inl 2, .inl 3, .inl 4, .inr 5] (vx_runV (As := [.int p1]) (rest := [.int (0 : Int32), .ref (q 23)]) ⟨hx, hb, hml, hown, hts⟩ (kX8_factorStartx l hlt D cI cJ cD sa q hq N Tn Ta Fn Fa p1 e4 Fn4 Fa4 hc) (cwV 1 hts gL_factorStart_X8_factorStart rfl rfl rfl (by decide +kernel) ⟨(Nat.le_of_ble_eq_true rfl), (Nat.le_of_ble_eq_true rfl)⟩) ⟨gPx_blind, va_recv hE.1 hP (ci := 6) (q0 := 0) rfl rfl, fun U hU hW => ⟨rfl, by rw [hU]; exact hP.sub (ws' := (w_0_1_2_3_4 q cI cJ cD Tn Ta Fn Fa)) [0, 1, 2, 3, 4] rfl, gEv.warm hW hE, gXe.go hW hS (gMono rfl) hXe hU⟩⟩ rfl rfl hl.1 rfl (lv_room (Nat.le_of_ble_eq_true rfl)) dL_factorStart_4 ⟨(Nat.le_of_ble_eq_true rfl), (Nat.le_of_ble_eq_true rfl)⟩) hP hS (gSub rfl) rfl rfl rfl rfl (fun ce q9 H locs hP hS hce hcv hcl => ?_)
    by_cases c_1 : e4 = 0
    · have hf := (if_pos c_1).symm.trans hf
      subst c_1
      refine vx_catch (E := "java/lang/IndexOutOfBoundsException") (name := "java/lang/IndexOutOfBoundsException") hown [] ⟨0, 9, 12, 21⟩ [] htab (fun _ h => nomatch h) rfl (by decide) (hts (.classLink RL 21 "java/lang/IndexOutOfBoundsException") (by decide +kernel)) (va_Nw.use rfl (hXe.1.2.1 "java/lang/IndexOutOfBoundsException" (by decide +kernel))) hce hcv hcl ?_
      refine lv_astore_n (lv' := [(3, .ref q9), (0, .ref (q 0)), (1, .int p1), (2, .ref (q 23))]) hx hb dL_factorStart_12 rfl hl (by decide) rfl (fun ls hl => ?_)
      refine lv_iconst (v := (1 : Int32)) hx hb dL_factorStart_13 (by decide) ?_
      cases hf
      refine W.widen (k := 1) (n := 6) (Nat.le_of_ble_eq_true rfl) (Nat.le_of_ble_eq_true rfl) ?_
      exact W.iret hx hb hr (fun t ht hW => ⟨⟨rfl, by rw [ht]; exact hP⟩, hS.F ht⟩) hS.2.2 dL_factorStart_14
    have hf := (if_neg c_1).symm.trans hf
    exact nomatch hf
  try dsimp only at hf
  refine g_call0 (ws' := (w_0_1_2_3_4_23 q cI cJ cD Tn Ta Fn4 Fa4 Oa)) (st1 := [.int r4, .int (0 : Int32), .ref (q 23)]) hq [0, 1, 2, 3, 4, 23] [0, 1, 2, 3, 4] [.inl 0, .inl 1, .inl 2, .inl 3, .inl 4, .inr 5] (va_runV (As := [.int p1]) (rest := [.int (0 : Int32), .ref (q 23)]) ⟨hx, hb, hml, hown, hts⟩ (kX8_factorStart l D cI cJ cD q hq N Tn Ta Fn Fa p1 r4 Fn4 Fa4 hc) (cwV 1 hts gL_factorStart_X8_factorStart rfl rfl rfl (by decide +kernel) ⟨(Nat.le_of_ble_eq_true rfl), (Nat.le_of_ble_eq_true rfl)⟩) ⟨gP_blind, va_recv hE.1 hP (ci := 6) (q0 := 0) rfl rfl, fun U hU hW => ⟨rfl, by rw [hU]; exact hP.sub (ws' := (w_0_1_2_3_4 q cI cJ cD Tn Ta Fn Fa)) [0, 1, 2, 3, 4] rfl, gEv.warm hW hE⟩⟩ rfl rfl hl.1 rfl (lv_room (Nat.le_of_ble_eq_true rfl)) dL_factorStart_4 ⟨Nat.zero_le _, Nat.zero_le _⟩) hP hS (gSub rfl) rfl rfl rfl rfl rfl (fun H locs hP hS => ?_)
  refine lv_i2l (v := (r4).toInt64) hx hb dL_factorStart_7 rfl ?_
  obtain ⟨g_2, hf⟩ := gd_some hf
  refine va_last hx hb hE.1 hP (hDm Tn Ta Fn4 Fa4 Oa) hS 5 1 rfl rfl (inb_in g_2) dL_factorStart_8 (fun H locs hP _ hS => ?_)
  have hP : va_P D vwCl (w_0_1_2_3_4_23 q cI cJ cD Tn Ta Fn4 Fa4 (vp_updL Oa ((0 : Int32)).toNatClampNeg ((r4).toInt64))) H := hP
  refine lv_goto (tgt := 15) hx hb dL_factorStart_9 (by decide) ?_
  refine lv_iconst (v := (0 : Int32)) hx hb dL_factorStart_15 (by decide) ?_
  cases hf
  refine W.widen (k := 1) (n := 6) (Nat.le_of_ble_eq_true rfl) (Nat.le_of_ble_eq_true rfl) ?_
  exact W.iret hx hb hr (fun t ht hW => ⟨⟨rfl, by rw [ht]; exact hP⟩, hS.F ht⟩) hS.2.2 dL_factorStart_16
set_option maxHeartbeats 4000000 in
set_option maxRecDepth 100000 in
theorem kL_factorLength (l : Launch) (hlt : l.stackTraces = false) (D : va_G) (cI cJ cD : ClassId) (sa : Nat → Nat) (q : Nat → Nat) (hq : gInj q) (N : Nat) (Tn : Int32) (Ta : (Nat → Int32)) (Fn : Int32) (Fa : (Nat → Int32)) (Oa : (Nat → Int64)) (p1 : Int32) (r0 : Int32) (Fn9 : Int32) (Fa9 : (Nat → Int32)) (Oa9 : (Nat → Int64)) (hf : fL_factorLength N Tn Ta Fn Fa Oa p1 = some (r0, Fn9, Fa9, Oa9)) : Met l yL_factorLength wsL_factorLength rL_factorLengthx (gPx D cI cJ cD sa (gA q [0, 1, 2, 3, 4, 23]) [.ref (q 0), .int p1, .ref (q 23)] (w_0_1_2_3_4_23 q cI cJ cD Tn Ta Fn Fa Oa)) (gQ D (some (.int r0)) (w_0_1_2_3_4_23 q cI cJ cD Tn Ta Fn9 Fa9 Oa9) (gA q [0, 1, 2, 3, 4, 23])) 1 6 (gA q [0, 1, 2, 3, 4, 23]) := by
  refine g_ofWH (cc := cL_factorLength) (maxL := 4) (ret := (some .int)) (hh := [(0, 9, 12, 21)]) (by decide +kernel) rfl ?_
  intro p e s m args below meth c s₁ B hml hv
  obtain ⟨rfl, hP, hE, hXe⟩ := hv
  have hx := B.exec
  have hb := B.bytes
  have hr := B.returns
  have hts := atoms_spec (ws := wsL_factorLength) B.pre
  have hown : s.vm.findClass RL = some m.cls := findClass_of_methodNamed B.named
  have hlocks := B.notSynchronized
  have htab : c.exceptionTable.toList = [⟨0, 9, 12, 21⟩] := vx_table (x := yL_factorLength) B (hts _ List.mem_cons_self)
  have hS : va_S (gA q [0, 1, 2, 3, 4, 23]) s.heap s.heap [] := va_S.rf
  have hl := lv_entry ([.ref (q 0), .int p1, .ref (q 23)]) (n := 4) (Nat.le_of_ble_eq_true rfl)
  rw [lg_entry_eq]
  generalize (lg_sl ([.ref (q 0), .int p1, .ref (q 23)]) ++ List.replicate (4 - (lg_sl ([.ref (q 0), .int p1, .ref (q 23)])).length) Slot.unset).toArray = ls at hl ⊢
  have hl : lv_has ls 4 [(0, .ref (q 0)), (1, .int p1), (2, .ref (q 23))] := hl
  have hDm : ∀ (z0 : Int32) (z1 : (Nat → Int32)) (z2 : Int32) (z3 : (Nat → Int32)) (z4 : (Nat → Int64)), va_D (gA q [0, 1, 2, 3, 4, 23]) (w_0_1_2_3_4_23 q cI cJ cD z0 z1 z2 z3 z4) := fun _ _ _ _ _ => gD_of hq [0, 1, 2, 3, 4, 23] rfl rfl rfl (fun k h => ⟨k, h, rfl⟩)
  unfold fL_factorLength at hf
  refine lv_aload_n hx hb dL_factorLength_0 rfl (lv_at hl 2 rfl) ?_
  refine lv_iconst (v := (0 : Int32)) hx hb dL_factorLength_1 (by decide) ?_
  refine lv_aload_n hx hb dL_factorLength_2 rfl (lv_at hl 0 rfl) ?_
  refine lv_iload_n hx hb dL_factorLength_3 rfl (lv_at hl 1 rfl) ?_
  rcases bx_some hf with ⟨⟨e4, Fn4, Fa4⟩, hc, hf⟩ | ⟨⟨r4, Fn4, Fa4⟩, hc, hf⟩
  · try dsimp only at hf
    refine g_callX (ws' := (w_0_1_2_3_4_23 q cI cJ cD Tn Ta Fn4 Fa4 Oa)) hq [0, 1, 2, 3, 4, 23] [0, 1, 2, 3, 4] [.inl 0, .inl 1, .inl 2, .inl 3, .inl 4, .inr 5] (vx_runV (As := [.int p1]) (rest := [.int (0 : Int32), .ref (q 23)]) ⟨hx, hb, hml, hown, hts⟩ (kX8_factorLengthx l hlt D cI cJ cD sa q hq N Tn Ta Fn Fa p1 e4 Fn4 Fa4 hc) (cwV 1 hts gL_factorLength_X8_factorLength rfl rfl rfl (by decide +kernel) ⟨(Nat.le_of_ble_eq_true rfl), (Nat.le_of_ble_eq_true rfl)⟩) ⟨gPx_blind, va_recv hE.1 hP (ci := 6) (q0 := 0) rfl rfl, fun U hU hW => ⟨rfl, by rw [hU]; exact hP.sub (ws' := (w_0_1_2_3_4 q cI cJ cD Tn Ta Fn Fa)) [0, 1, 2, 3, 4] rfl, gEv.warm hW hE, gXe.go hW hS (gMono rfl) hXe hU⟩⟩ rfl rfl hl.1 rfl (lv_room (Nat.le_of_ble_eq_true rfl)) dL_factorLength_4 ⟨(Nat.le_of_ble_eq_true rfl), (Nat.le_of_ble_eq_true rfl)⟩) hP hS (gSub rfl) rfl rfl rfl rfl (fun ce q9 H locs hP hS hce hcv hcl => ?_)
    by_cases c_1 : e4 = 0
    · have hf := (if_pos c_1).symm.trans hf
      subst c_1
      refine vx_catch (E := "java/lang/IndexOutOfBoundsException") (name := "java/lang/IndexOutOfBoundsException") hown [] ⟨0, 9, 12, 21⟩ [] htab (fun _ h => nomatch h) rfl (by decide) (hts (.classLink RL 21 "java/lang/IndexOutOfBoundsException") (by decide +kernel)) (va_Nw.use rfl (hXe.1.2.1 "java/lang/IndexOutOfBoundsException" (by decide +kernel))) hce hcv hcl ?_
      refine lv_astore_n (lv' := [(3, .ref q9), (0, .ref (q 0)), (1, .int p1), (2, .ref (q 23))]) hx hb dL_factorLength_12 rfl hl (by decide) rfl (fun ls hl => ?_)
      refine lv_iconst (v := (1 : Int32)) hx hb dL_factorLength_13 (by decide) ?_
      cases hf
      refine W.widen (k := 1) (n := 6) (Nat.le_of_ble_eq_true rfl) (Nat.le_of_ble_eq_true rfl) ?_
      exact W.iret hx hb hr (fun t ht hW => ⟨⟨rfl, by rw [ht]; exact hP⟩, hS.F ht⟩) hS.2.2 dL_factorLength_14
    have hf := (if_neg c_1).symm.trans hf
    exact nomatch hf
  try dsimp only at hf
  refine g_call0 (ws' := (w_0_1_2_3_4_23 q cI cJ cD Tn Ta Fn4 Fa4 Oa)) (st1 := [.int r4, .int (0 : Int32), .ref (q 23)]) hq [0, 1, 2, 3, 4, 23] [0, 1, 2, 3, 4] [.inl 0, .inl 1, .inl 2, .inl 3, .inl 4, .inr 5] (va_runV (As := [.int p1]) (rest := [.int (0 : Int32), .ref (q 23)]) ⟨hx, hb, hml, hown, hts⟩ (kX8_factorLength l D cI cJ cD q hq N Tn Ta Fn Fa p1 r4 Fn4 Fa4 hc) (cwV 1 hts gL_factorLength_X8_factorLength rfl rfl rfl (by decide +kernel) ⟨(Nat.le_of_ble_eq_true rfl), (Nat.le_of_ble_eq_true rfl)⟩) ⟨gP_blind, va_recv hE.1 hP (ci := 6) (q0 := 0) rfl rfl, fun U hU hW => ⟨rfl, by rw [hU]; exact hP.sub (ws' := (w_0_1_2_3_4 q cI cJ cD Tn Ta Fn Fa)) [0, 1, 2, 3, 4] rfl, gEv.warm hW hE⟩⟩ rfl rfl hl.1 rfl (lv_room (Nat.le_of_ble_eq_true rfl)) dL_factorLength_4 ⟨Nat.zero_le _, Nat.zero_le _⟩) hP hS (gSub rfl) rfl rfl rfl rfl rfl (fun H locs hP hS => ?_)
  refine lv_i2l (v := (r4).toInt64) hx hb dL_factorLength_7 rfl ?_
  obtain ⟨g_2, hf⟩ := gd_some hf
  refine va_last hx hb hE.1 hP (hDm Tn Ta Fn4 Fa4 Oa) hS 5 1 rfl rfl (inb_in g_2) dL_factorLength_8 (fun H locs hP _ hS => ?_)
  have hP : va_P D vwCl (w_0_1_2_3_4_23 q cI cJ cD Tn Ta Fn4 Fa4 (vp_updL Oa ((0 : Int32)).toNatClampNeg ((r4).toInt64))) H := hP
  refine lv_goto (tgt := 15) hx hb dL_factorLength_9 (by decide) ?_
  refine lv_iconst (v := (0 : Int32)) hx hb dL_factorLength_15 (by decide) ?_
  cases hf
  refine W.widen (k := 1) (n := 6) (Nat.le_of_ble_eq_true rfl) (Nat.le_of_ble_eq_true rfl) ?_
  exact W.iret hx hb hr (fun t ht hW => ⟨⟨rfl, by rw [ht]; exact hP⟩, hS.F ht⟩) hS.2.2 dL_factorLength_16
set_option maxHeartbeats 4000000 in
set_option maxRecDepth 100000 in
theorem kL_factorOver (l : Launch) (hlt : l.stackTraces = false) (D : va_G) (cI cJ cD : ClassId) (sa : Nat → Nat) (q : Nat → Nat) (hq : gInj q) (N : Nat) (Tn : Int32) (Ta : (Nat → Int32)) (Fn : Int32) (Fa : (Nat → Int32)) (Oa : (Nat → Int64)) (p1 : Int32) (r0 : Int32) (Fn9 : Int32) (Fa9 : (Nat → Int32)) (Oa9 : (Nat → Int64)) (hf : fL_factorOver N Tn Ta Fn Fa Oa p1 = some (r0, Fn9, Fa9, Oa9)) : Met l yL_factorOver wsL_factorOver rL_factorOverx (gPx D cI cJ cD sa (gA q [0, 1, 2, 3, 4, 23]) [.ref (q 0), .int p1, .ref (q 23)] (w_0_1_2_3_4_23 q cI cJ cD Tn Ta Fn Fa Oa)) (gQ D (some (.int r0)) (w_0_1_2_3_4_23 q cI cJ cD Tn Ta Fn9 Fa9 Oa9) (gA q [0, 1, 2, 3, 4, 23])) 1 6 (gA q [0, 1, 2, 3, 4, 23]) := by
  refine g_ofWH (cc := cL_factorOver) (maxL := 4) (ret := (some .int)) (hh := [(0, 9, 12, 21)]) (by decide +kernel) rfl ?_
  intro p e s m args below meth c s₁ B hml hv
  obtain ⟨rfl, hP, hE, hXe⟩ := hv
  have hx := B.exec
  have hb := B.bytes
  have hr := B.returns
  have hts := atoms_spec (ws := wsL_factorOver) B.pre
  have hown : s.vm.findClass RL = some m.cls := findClass_of_methodNamed B.named
  have hlocks := B.notSynchronized
  have htab : c.exceptionTable.toList = [⟨0, 9, 12, 21⟩] := vx_table (x := yL_factorOver) B (hts _ List.mem_cons_self)
  have hS : va_S (gA q [0, 1, 2, 3, 4, 23]) s.heap s.heap [] := va_S.rf
  have hl := lv_entry ([.ref (q 0), .int p1, .ref (q 23)]) (n := 4) (Nat.le_of_ble_eq_true rfl)
  rw [lg_entry_eq]
  generalize (lg_sl ([.ref (q 0), .int p1, .ref (q 23)]) ++ List.replicate (4 - (lg_sl ([.ref (q 0), .int p1, .ref (q 23)])).length) Slot.unset).toArray = ls at hl ⊢
  have hl : lv_has ls 4 [(0, .ref (q 0)), (1, .int p1), (2, .ref (q 23))] := hl
  have hDm : ∀ (z0 : Int32) (z1 : (Nat → Int32)) (z2 : Int32) (z3 : (Nat → Int32)) (z4 : (Nat → Int64)), va_D (gA q [0, 1, 2, 3, 4, 23]) (w_0_1_2_3_4_23 q cI cJ cD z0 z1 z2 z3 z4) := fun _ _ _ _ _ => gD_of hq [0, 1, 2, 3, 4, 23] rfl rfl rfl (fun k h => ⟨k, h, rfl⟩)
  unfold fL_factorOver at hf
  refine lv_aload_n hx hb dL_factorOver_0 rfl (lv_at hl 2 rfl) ?_
  refine lv_iconst (v := (0 : Int32)) hx hb dL_factorOver_1 (by decide) ?_
  refine lv_aload_n hx hb dL_factorOver_2 rfl (lv_at hl 0 rfl) ?_
  refine lv_iload_n hx hb dL_factorOver_3 rfl (lv_at hl 1 rfl) ?_
  rcases bx_some hf with ⟨⟨e4, Fn4, Fa4⟩, hc, hf⟩ | ⟨⟨r4, Fn4, Fa4⟩, hc, hf⟩
  · try dsimp only at hf
    refine g_callX (ws' := (w_0_1_2_3_4_23 q cI cJ cD Tn Ta Fn4 Fa4 Oa)) hq [0, 1, 2, 3, 4, 23] [0, 1, 2, 3, 4] [.inl 0, .inl 1, .inl 2, .inl 3, .inl 4, .inr 5] (vx_runV (As := [.int p1]) (rest := [.int (0 : Int32), .ref (q 23)]) ⟨hx, hb, hml, hown, hts⟩ (kX8_factorOverx l hlt D cI cJ cD sa q hq N Tn Ta Fn Fa p1 e4 Fn4 Fa4 hc) (cwV 1 hts gL_factorOver_X8_factorOver rfl rfl rfl (by decide +kernel) ⟨(Nat.le_of_ble_eq_true rfl), (Nat.le_of_ble_eq_true rfl)⟩) ⟨gPx_blind, va_recv hE.1 hP (ci := 6) (q0 := 0) rfl rfl, fun U hU hW => ⟨rfl, by rw [hU]; exact hP.sub (ws' := (w_0_1_2_3_4 q cI cJ cD Tn Ta Fn Fa)) [0, 1, 2, 3, 4] rfl, gEv.warm hW hE, gXe.go hW hS (gMono rfl) hXe hU⟩⟩ rfl rfl hl.1 rfl (lv_room (Nat.le_of_ble_eq_true rfl)) dL_factorOver_4 ⟨(Nat.le_of_ble_eq_true rfl), (Nat.le_of_ble_eq_true rfl)⟩) hP hS (gSub rfl) rfl rfl rfl rfl (fun ce q9 H locs hP hS hce hcv hcl => ?_)
    by_cases c_1 : e4 = 0
    · have hf := (if_pos c_1).symm.trans hf
      subst c_1
      refine vx_catch (E := "java/lang/IndexOutOfBoundsException") (name := "java/lang/IndexOutOfBoundsException") hown [] ⟨0, 9, 12, 21⟩ [] htab (fun _ h => nomatch h) rfl (by decide) (hts (.classLink RL 21 "java/lang/IndexOutOfBoundsException") (by decide +kernel)) (va_Nw.use rfl (hXe.1.2.1 "java/lang/IndexOutOfBoundsException" (by decide +kernel))) hce hcv hcl ?_
      refine lv_astore_n (lv' := [(3, .ref q9), (0, .ref (q 0)), (1, .int p1), (2, .ref (q 23))]) hx hb dL_factorOver_12 rfl hl (by decide) rfl (fun ls hl => ?_)
      refine lv_iconst (v := (1 : Int32)) hx hb dL_factorOver_13 (by decide) ?_
      cases hf
      refine W.widen (k := 1) (n := 6) (Nat.le_of_ble_eq_true rfl) (Nat.le_of_ble_eq_true rfl) ?_
      exact W.iret hx hb hr (fun t ht hW => ⟨⟨rfl, by rw [ht]; exact hP⟩, hS.F ht⟩) hS.2.2 dL_factorOver_14
    have hf := (if_neg c_1).symm.trans hf
    exact nomatch hf
  try dsimp only at hf
  refine g_call0 (ws' := (w_0_1_2_3_4_23 q cI cJ cD Tn Ta Fn4 Fa4 Oa)) (st1 := [.int r4, .int (0 : Int32), .ref (q 23)]) hq [0, 1, 2, 3, 4, 23] [0, 1, 2, 3, 4] [.inl 0, .inl 1, .inl 2, .inl 3, .inl 4, .inr 5] (va_runV (As := [.int p1]) (rest := [.int (0 : Int32), .ref (q 23)]) ⟨hx, hb, hml, hown, hts⟩ (kX8_factorOver l D cI cJ cD q hq N Tn Ta Fn Fa p1 r4 Fn4 Fa4 hc) (cwV 1 hts gL_factorOver_X8_factorOver rfl rfl rfl (by decide +kernel) ⟨(Nat.le_of_ble_eq_true rfl), (Nat.le_of_ble_eq_true rfl)⟩) ⟨gP_blind, va_recv hE.1 hP (ci := 6) (q0 := 0) rfl rfl, fun U hU hW => ⟨rfl, by rw [hU]; exact hP.sub (ws' := (w_0_1_2_3_4 q cI cJ cD Tn Ta Fn Fa)) [0, 1, 2, 3, 4] rfl, gEv.warm hW hE⟩⟩ rfl rfl hl.1 rfl (lv_room (Nat.le_of_ble_eq_true rfl)) dL_factorOver_4 ⟨Nat.zero_le _, Nat.zero_le _⟩) hP hS (gSub rfl) rfl rfl rfl rfl rfl (fun H locs hP hS => ?_)
  refine lv_i2l (v := (r4).toInt64) hx hb dL_factorOver_7 rfl ?_
  obtain ⟨g_2, hf⟩ := gd_some hf
  refine va_last hx hb hE.1 hP (hDm Tn Ta Fn4 Fa4 Oa) hS 5 1 rfl rfl (inb_in g_2) dL_factorOver_8 (fun H locs hP _ hS => ?_)
  have hP : va_P D vwCl (w_0_1_2_3_4_23 q cI cJ cD Tn Ta Fn4 Fa4 (vp_updL Oa ((0 : Int32)).toNatClampNeg ((r4).toInt64))) H := hP
  refine lv_goto (tgt := 15) hx hb dL_factorOver_9 (by decide) ?_
  refine lv_iconst (v := (0 : Int32)) hx hb dL_factorOver_15 (by decide) ?_
  cases hf
  refine W.widen (k := 1) (n := 6) (Nat.le_of_ble_eq_true rfl) (Nat.le_of_ble_eq_true rfl) ?_
  exact W.iret hx hb hr (fun t ht hW => ⟨⟨rfl, by rw [ht]; exact hP⟩, hS.F ht⟩) hS.2.2 dL_factorOver_16
set_option maxHeartbeats 4000000 in
set_option maxRecDepth 100000 in
theorem kL_longestLyndon (l : Launch) (hlt : l.stackTraces = false) (D : va_G) (cI cJ cD : ClassId) (sa : Nat → Nat) (q : Nat → Nat) (hq : gInj q) (N : Nat) (Tn : Int32) (Ta : (Nat → Int32)) (Oa : (Nat → Int64)) (p1 : Int32) (p2 : Int32) (r0 : Int32) (Oa9 : (Nat → Int64)) (hf : fL_longestLyndon N Tn Ta Oa p1 p2 = some (r0, Oa9)) : Met l yL_longestLyndon wsL_longestLyndon rL_longestLyndonx (gPx D cI cJ cD sa (gA q [0, 1, 2, 23]) [.ref (q 0), .int p1, .int p2, .ref (q 23)] (w_0_1_2_23 q cI cJ cD Tn Ta Oa)) (gQ D (some (.int r0)) (w_0_1_2_23 q cI cJ cD Tn Ta Oa9) (gA q [0, 1, 2, 23])) 1 6 (gA q [0, 1, 2, 23]) := by
  refine g_ofWH (cc := cL_longestLyndon) (maxL := 5) (ret := (some .int)) (hh := [(0, 10, 13, 21)]) (by decide +kernel) rfl ?_
  intro p e s m args below meth c s₁ B hml hv
  obtain ⟨rfl, hP, hE, hXe⟩ := hv
  have hx := B.exec
  have hb := B.bytes
  have hr := B.returns
  have hts := atoms_spec (ws := wsL_longestLyndon) B.pre
  have hown : s.vm.findClass RL = some m.cls := findClass_of_methodNamed B.named
  have hlocks := B.notSynchronized
  have htab : c.exceptionTable.toList = [⟨0, 10, 13, 21⟩] := vx_table (x := yL_longestLyndon) B (hts _ List.mem_cons_self)
  have hS : va_S (gA q [0, 1, 2, 23]) s.heap s.heap [] := va_S.rf
  have hl := lv_entry ([.ref (q 0), .int p1, .int p2, .ref (q 23)]) (n := 5) (Nat.le_of_ble_eq_true rfl)
  rw [lg_entry_eq]
  generalize (lg_sl ([.ref (q 0), .int p1, .int p2, .ref (q 23)]) ++ List.replicate (5 - (lg_sl ([.ref (q 0), .int p1, .int p2, .ref (q 23)])).length) Slot.unset).toArray = ls at hl ⊢
  have hl : lv_has ls 5 [(0, .ref (q 0)), (1, .int p1), (2, .int p2), (3, .ref (q 23))] := hl
  have hDm : ∀ (z0 : Int32) (z1 : (Nat → Int32)) (z2 : (Nat → Int64)), va_D (gA q [0, 1, 2, 23]) (w_0_1_2_23 q cI cJ cD z0 z1 z2) := fun _ _ _ => gD_of hq [0, 1, 2, 23] rfl rfl rfl (fun k h => ⟨k, h, rfl⟩)
  unfold fL_longestLyndon at hf
  refine lv_aload_n hx hb dL_longestLyndon_0 rfl (lv_at hl 3 rfl) ?_
  refine lv_iconst (v := (0 : Int32)) hx hb dL_longestLyndon_1 (by decide) ?_
  refine lv_aload_n hx hb dL_longestLyndon_2 rfl (lv_at hl 0 rfl) ?_
  refine lv_iload_n hx hb dL_longestLyndon_3 rfl (lv_at hl 1 rfl) ?_
  refine lv_iload_n hx hb dL_longestLyndon_4 rfl (lv_at hl 2 rfl) ?_
  rcases bx_some hf with ⟨e5, hc, hf⟩ | ⟨r5, hc, hf⟩
  · try dsimp only at hf
    refine g_callX (ws' := (w_0_1_2_23 q cI cJ cD Tn Ta Oa)) hq [0, 1, 2, 23] [0, 1, 2] [.inl 0, .inl 1, .inl 2, .inr 3] (vx_runV (As := [.int p1, .int p2]) (rest := [.int (0 : Int32), .ref (q 23)]) ⟨hx, hb, hml, hown, hts⟩ (kX8_longestLyndonx l hlt D cI cJ cD sa q hq N Tn Ta p1 p2 e5 hc) (cwV 2 hts gL_longestLyndon_X8_longestLyndon rfl rfl rfl (by decide +kernel) ⟨(Nat.le_of_ble_eq_true rfl), (Nat.le_of_ble_eq_true rfl)⟩) ⟨gPx_blind, va_recv hE.1 hP (ci := 6) (q0 := 0) rfl rfl, fun U hU hW => ⟨rfl, by rw [hU]; exact hP.sub (ws' := (w_0_1_2 q cI cJ cD Tn Ta)) [0, 1, 2] rfl, gEv.warm hW hE, gXe.go hW hS (gMono rfl) hXe hU⟩⟩ rfl rfl hl.1 rfl (lv_room (Nat.le_of_ble_eq_true rfl)) dL_longestLyndon_5 ⟨(Nat.le_of_ble_eq_true rfl), (Nat.le_of_ble_eq_true rfl)⟩) hP hS (gSub rfl) rfl rfl rfl rfl (fun ce q9 H locs hP hS hce hcv hcl => ?_)
    by_cases c_1 : e5 = 0
    · have hf := (if_pos c_1).symm.trans hf
      subst c_1
      refine vx_catch (E := "java/lang/IndexOutOfBoundsException") (name := "java/lang/IndexOutOfBoundsException") hown [] ⟨0, 10, 13, 21⟩ [] htab (fun _ h => nomatch h) rfl (by decide) (hts (.classLink RL 21 "java/lang/IndexOutOfBoundsException") (by decide +kernel)) (va_Nw.use rfl (hXe.1.2.1 "java/lang/IndexOutOfBoundsException" (by decide +kernel))) hce hcv hcl ?_
      refine lv_astore (lv' := [(4, .ref q9), (0, .ref (q 0)), (1, .int p1), (2, .int p2), (3, .ref (q 23))]) hx hb dL_longestLyndon_13 hl (by decide) rfl (fun ls hl => ?_)
      refine lv_iconst (v := (1 : Int32)) hx hb dL_longestLyndon_15 (by decide) ?_
      cases hf
      refine W.widen (k := 1) (n := 6) (Nat.le_of_ble_eq_true rfl) (Nat.le_of_ble_eq_true rfl) ?_
      exact W.iret hx hb hr (fun t ht hW => ⟨⟨rfl, by rw [ht]; exact hP⟩, hS.F ht⟩) hS.2.2 dL_longestLyndon_16
    have hf := (if_neg c_1).symm.trans hf
    exact nomatch hf
  try dsimp only at hf
  refine g_call0 (ws' := (w_0_1_2_23 q cI cJ cD Tn Ta Oa)) (st1 := [.int r5, .int (0 : Int32), .ref (q 23)]) hq [0, 1, 2, 23] [0, 1, 2] [.inl 0, .inl 1, .inl 2, .inr 3] (va_runV (As := [.int p1, .int p2]) (rest := [.int (0 : Int32), .ref (q 23)]) ⟨hx, hb, hml, hown, hts⟩ (kX8_longestLyndon l D cI cJ cD q hq N Tn Ta p1 p2 r5 hc) (cwV 2 hts gL_longestLyndon_X8_longestLyndon rfl rfl rfl (by decide +kernel) ⟨(Nat.le_of_ble_eq_true rfl), (Nat.le_of_ble_eq_true rfl)⟩) ⟨gP_blind, va_recv hE.1 hP (ci := 6) (q0 := 0) rfl rfl, fun U hU hW => ⟨rfl, by rw [hU]; exact hP.sub (ws' := (w_0_1_2 q cI cJ cD Tn Ta)) [0, 1, 2] rfl, gEv.warm hW hE⟩⟩ rfl rfl hl.1 rfl (lv_room (Nat.le_of_ble_eq_true rfl)) dL_longestLyndon_5 ⟨Nat.zero_le _, Nat.zero_le _⟩) hP hS (gSub rfl) rfl rfl rfl rfl rfl (fun H locs hP hS => ?_)
  refine lv_i2l (v := (r5).toInt64) hx hb dL_longestLyndon_8 rfl ?_
  obtain ⟨g_2, hf⟩ := gd_some hf
  refine va_last hx hb hE.1 hP (hDm Tn Ta Oa) hS 3 1 rfl rfl (inb_in g_2) dL_longestLyndon_9 (fun H locs hP _ hS => ?_)
  have hP : va_P D vwCl (w_0_1_2_23 q cI cJ cD Tn Ta (vp_updL Oa ((0 : Int32)).toNatClampNeg ((r5).toInt64))) H := hP
  refine lv_goto (tgt := 17) hx hb dL_longestLyndon_10 (by decide) ?_
  refine lv_iconst (v := (0 : Int32)) hx hb dL_longestLyndon_17 (by decide) ?_
  cases hf
  refine W.widen (k := 1) (n := 6) (Nat.le_of_ble_eq_true rfl) (Nat.le_of_ble_eq_true rfl) ?_
  exact W.iret hx hb hr (fun t ht hW => ⟨⟨rfl, by rw [ht]; exact hP⟩, hS.F ht⟩) hS.2.2 dL_longestLyndon_18
set_option maxHeartbeats 4000000 in
set_option maxRecDepth 100000 in
theorem kL_standardFactor (l : Launch) (hlt : l.stackTraces = false) (D : va_G) (cI cJ cD : ClassId) (sa : Nat → Nat) (q : Nat → Nat) (hq : gInj q) (N : Nat) (Tn : Int32) (Ta : (Nat → Int32)) (Oa : (Nat → Int64)) (p1 : Int32) (p2 : Int32) (r0 : Int32) (Oa9 : (Nat → Int64)) (hf : fL_standardFactor N Tn Ta Oa p1 p2 = some (r0, Oa9)) : Met l yL_standardFactor wsL_standardFactor rL_standardFactorx (gPx D cI cJ cD sa (gA q [0, 1, 2, 23]) [.ref (q 0), .int p1, .int p2, .ref (q 23)] (w_0_1_2_23 q cI cJ cD Tn Ta Oa)) (gQ D (some (.int r0)) (w_0_1_2_23 q cI cJ cD Tn Ta Oa9) (gA q [0, 1, 2, 23])) 1 6 (gA q [0, 1, 2, 23]) := by
  refine g_ofWH (cc := cL_standardFactor) (maxL := 5) (ret := (some .int)) (hh := [(0, 10, 13, 21), (0, 10, 17, 15)]) (by decide +kernel) rfl ?_
  intro p e s m args below meth c s₁ B hml hv
  obtain ⟨rfl, hP, hE, hXe⟩ := hv
  have hx := B.exec
  have hb := B.bytes
  have hr := B.returns
  have hts := atoms_spec (ws := wsL_standardFactor) B.pre
  have hown : s.vm.findClass RL = some m.cls := findClass_of_methodNamed B.named
  have hlocks := B.notSynchronized
  have htab : c.exceptionTable.toList = [⟨0, 10, 13, 21⟩, ⟨0, 10, 17, 15⟩] := vx_table (x := yL_standardFactor) B (hts _ List.mem_cons_self)
  have hS : va_S (gA q [0, 1, 2, 23]) s.heap s.heap [] := va_S.rf
  have hl := lv_entry ([.ref (q 0), .int p1, .int p2, .ref (q 23)]) (n := 5) (Nat.le_of_ble_eq_true rfl)
  rw [lg_entry_eq]
  generalize (lg_sl ([.ref (q 0), .int p1, .int p2, .ref (q 23)]) ++ List.replicate (5 - (lg_sl ([.ref (q 0), .int p1, .int p2, .ref (q 23)])).length) Slot.unset).toArray = ls at hl ⊢
  have hl : lv_has ls 5 [(0, .ref (q 0)), (1, .int p1), (2, .int p2), (3, .ref (q 23))] := hl
  have hDm : ∀ (z0 : Int32) (z1 : (Nat → Int32)) (z2 : (Nat → Int64)), va_D (gA q [0, 1, 2, 23]) (w_0_1_2_23 q cI cJ cD z0 z1 z2) := fun _ _ _ => gD_of hq [0, 1, 2, 23] rfl rfl rfl (fun k h => ⟨k, h, rfl⟩)
  unfold fL_standardFactor at hf
  refine lv_aload_n hx hb dL_standardFactor_0 rfl (lv_at hl 3 rfl) ?_
  refine lv_iconst (v := (0 : Int32)) hx hb dL_standardFactor_1 (by decide) ?_
  refine lv_aload_n hx hb dL_standardFactor_2 rfl (lv_at hl 0 rfl) ?_
  refine lv_iload_n hx hb dL_standardFactor_3 rfl (lv_at hl 1 rfl) ?_
  refine lv_iload_n hx hb dL_standardFactor_4 rfl (lv_at hl 2 rfl) ?_
  rcases bx_some hf with ⟨e5, hc, hf⟩ | ⟨r5, hc, hf⟩
  · try dsimp only at hf
    refine g_callX (ws' := (w_0_1_2_23 q cI cJ cD Tn Ta Oa)) hq [0, 1, 2, 23] [0, 1, 2] [.inl 0, .inl 1, .inl 2, .inr 3] (vx_runV (As := [.int p1, .int p2]) (rest := [.int (0 : Int32), .ref (q 23)]) ⟨hx, hb, hml, hown, hts⟩ (kX8_standardFactorx l hlt D cI cJ cD sa q hq N Tn Ta p1 p2 e5 hc) (cwV 2 hts gL_standardFactor_X8_standardFactor rfl rfl rfl (by decide +kernel) ⟨(Nat.le_of_ble_eq_true rfl), (Nat.le_of_ble_eq_true rfl)⟩) ⟨gPx_blind, va_recv hE.1 hP (ci := 6) (q0 := 0) rfl rfl, fun U hU hW => ⟨rfl, by rw [hU]; exact hP.sub (ws' := (w_0_1_2 q cI cJ cD Tn Ta)) [0, 1, 2] rfl, gEv.warm hW hE, gXe.go hW hS (gMono rfl) hXe hU⟩⟩ rfl rfl hl.1 rfl (lv_room (Nat.le_of_ble_eq_true rfl)) dL_standardFactor_5 ⟨(Nat.le_of_ble_eq_true rfl), (Nat.le_of_ble_eq_true rfl)⟩) hP hS (gSub rfl) rfl rfl rfl rfl (fun ce q9 H locs hP hS hce hcv hcl => ?_)
    by_cases c_1 : e5 = 0
    · have hf := (if_pos c_1).symm.trans hf
      subst c_1
      refine vx_catch (E := "java/lang/IndexOutOfBoundsException") (name := "java/lang/IndexOutOfBoundsException") hown [] ⟨0, 10, 13, 21⟩ [⟨0, 10, 17, 15⟩] htab (fun _ h => nomatch h) rfl (by decide) (hts (.classLink RL 21 "java/lang/IndexOutOfBoundsException") (by decide +kernel)) (va_Nw.use rfl (hXe.1.2.1 "java/lang/IndexOutOfBoundsException" (by decide +kernel))) hce hcv hcl ?_
      refine lv_astore (lv' := [(4, .ref q9), (0, .ref (q 0)), (1, .int p1), (2, .int p2), (3, .ref (q 23))]) hx hb dL_standardFactor_13 hl (by decide) rfl (fun ls hl => ?_)
      refine lv_iconst (v := (1 : Int32)) hx hb dL_standardFactor_15 (by decide) ?_
      cases hf
      refine W.widen (k := 1) (n := 6) (Nat.le_of_ble_eq_true rfl) (Nat.le_of_ble_eq_true rfl) ?_
      exact W.iret hx hb hr (fun t ht hW => ⟨⟨rfl, by rw [ht]; exact hP⟩, hS.F ht⟩) hS.2.2 dL_standardFactor_16
    have hf := (if_neg c_1).symm.trans hf
    by_cases c_2 : e5 = 2
    · have hf := (if_pos c_2).symm.trans hf
      subst c_2
      refine vx_catch (E := "java/lang/IllegalStateException") (name := "java/lang/IllegalStateException") hown [⟨0, 10, 13, 21⟩] ⟨0, 10, 17, 15⟩ [] htab (List.forall_mem_cons.mpr ⟨Or.inr ⟨by decide, "java/lang/IndexOutOfBoundsException", hts (.classLink RL 21 "java/lang/IndexOutOfBoundsException") (by decide +kernel), hXe.1.2.2.1 "java/lang/IllegalStateException" (by decide +kernel) "java/lang/IndexOutOfBoundsException" (by decide +kernel) (by decide +kernel)⟩, fun _ h => nomatch h⟩) rfl (by decide) (hts (.classLink RL 15 "java/lang/IllegalStateException") (by decide +kernel)) (va_Nw.use rfl (hXe.1.2.1 "java/lang/IllegalStateException" (by decide +kernel))) hce hcv hcl ?_
      refine lv_astore (lv' := [(4, .ref q9), (0, .ref (q 0)), (1, .int p1), (2, .int p2), (3, .ref (q 23))]) hx hb dL_standardFactor_17 hl (by decide) rfl (fun ls hl => ?_)
      refine lv_iconst (v := (2 : Int32)) hx hb dL_standardFactor_19 (by decide) ?_
      cases hf
      refine W.widen (k := 1) (n := 6) (Nat.le_of_ble_eq_true rfl) (Nat.le_of_ble_eq_true rfl) ?_
      exact W.iret hx hb hr (fun t ht hW => ⟨⟨rfl, by rw [ht]; exact hP⟩, hS.F ht⟩) hS.2.2 dL_standardFactor_20
    have hf := (if_neg c_2).symm.trans hf
    exact nomatch hf
  try dsimp only at hf
  refine g_call0 (ws' := (w_0_1_2_23 q cI cJ cD Tn Ta Oa)) (st1 := [.int r5, .int (0 : Int32), .ref (q 23)]) hq [0, 1, 2, 23] [0, 1, 2] [.inl 0, .inl 1, .inl 2, .inr 3] (va_runV (As := [.int p1, .int p2]) (rest := [.int (0 : Int32), .ref (q 23)]) ⟨hx, hb, hml, hown, hts⟩ (kX8_standardFactor l D cI cJ cD q hq N Tn Ta p1 p2 r5 hc) (cwV 2 hts gL_standardFactor_X8_standardFactor rfl rfl rfl (by decide +kernel) ⟨(Nat.le_of_ble_eq_true rfl), (Nat.le_of_ble_eq_true rfl)⟩) ⟨gP_blind, va_recv hE.1 hP (ci := 6) (q0 := 0) rfl rfl, fun U hU hW => ⟨rfl, by rw [hU]; exact hP.sub (ws' := (w_0_1_2 q cI cJ cD Tn Ta)) [0, 1, 2] rfl, gEv.warm hW hE⟩⟩ rfl rfl hl.1 rfl (lv_room (Nat.le_of_ble_eq_true rfl)) dL_standardFactor_5 ⟨Nat.zero_le _, Nat.zero_le _⟩) hP hS (gSub rfl) rfl rfl rfl rfl rfl (fun H locs hP hS => ?_)
  refine lv_i2l (v := (r5).toInt64) hx hb dL_standardFactor_8 rfl ?_
  obtain ⟨g_3, hf⟩ := gd_some hf
  refine va_last hx hb hE.1 hP (hDm Tn Ta Oa) hS 3 1 rfl rfl (inb_in g_3) dL_standardFactor_9 (fun H locs hP _ hS => ?_)
  have hP : va_P D vwCl (w_0_1_2_23 q cI cJ cD Tn Ta (vp_updL Oa ((0 : Int32)).toNatClampNeg ((r5).toInt64))) H := hP
  refine lv_goto (tgt := 21) hx hb dL_standardFactor_10 (by decide) ?_
  refine lv_iconst (v := (0 : Int32)) hx hb dL_standardFactor_21 (by decide) ?_
  cases hf
  refine W.widen (k := 1) (n := 6) (Nat.le_of_ble_eq_true rfl) (Nat.le_of_ble_eq_true rfl) ?_
  exact W.iret hx hb hr (fun t ht hW => ⟨⟨rfl, by rw [ht]; exact hP⟩, hS.F ht⟩) hS.2.2 dL_standardFactor_22
set_option maxHeartbeats 4000000 in
set_option maxRecDepth 100000 in
theorem kL_leastRotation (l : Launch) (hlt : l.stackTraces = false) (D : va_G) (cI cJ cD : ClassId) (sa : Nat → Nat) (q : Nat → Nat) (hq : gInj q) (N : Nat) (Tn : Int32) (Ta : (Nat → Int32)) (Oa : (Nat → Int64)) (p1 : Int32) (p2 : Int32) (r0 : Int32) (Oa9 : (Nat → Int64)) (hf : fL_leastRotation N Tn Ta Oa p1 p2 = some (r0, Oa9)) : Met l yL_leastRotation wsL_leastRotation rL_leastRotationx (gPx D cI cJ cD sa (gA q [0, 1, 2, 23]) [.ref (q 0), .int p1, .int p2, .ref (q 23)] (w_0_1_2_23 q cI cJ cD Tn Ta Oa)) (gQ D (some (.int r0)) (w_0_1_2_23 q cI cJ cD Tn Ta Oa9) (gA q [0, 1, 2, 23])) 1 6 (gA q [0, 1, 2, 23]) := by
  refine g_ofWH (cc := cL_leastRotation) (maxL := 5) (ret := (some .int)) (hh := [(0, 10, 13, 21)]) (by decide +kernel) rfl ?_
  intro p e s m args below meth c s₁ B hml hv
  obtain ⟨rfl, hP, hE, hXe⟩ := hv
  have hx := B.exec
  have hb := B.bytes
  have hr := B.returns
  have hts := atoms_spec (ws := wsL_leastRotation) B.pre
  have hown : s.vm.findClass RL = some m.cls := findClass_of_methodNamed B.named
  have hlocks := B.notSynchronized
  have htab : c.exceptionTable.toList = [⟨0, 10, 13, 21⟩] := vx_table (x := yL_leastRotation) B (hts _ List.mem_cons_self)
  have hS : va_S (gA q [0, 1, 2, 23]) s.heap s.heap [] := va_S.rf
  have hl := lv_entry ([.ref (q 0), .int p1, .int p2, .ref (q 23)]) (n := 5) (Nat.le_of_ble_eq_true rfl)
  rw [lg_entry_eq]
  generalize (lg_sl ([.ref (q 0), .int p1, .int p2, .ref (q 23)]) ++ List.replicate (5 - (lg_sl ([.ref (q 0), .int p1, .int p2, .ref (q 23)])).length) Slot.unset).toArray = ls at hl ⊢
  have hl : lv_has ls 5 [(0, .ref (q 0)), (1, .int p1), (2, .int p2), (3, .ref (q 23))] := hl
  have hDm : ∀ (z0 : Int32) (z1 : (Nat → Int32)) (z2 : (Nat → Int64)), va_D (gA q [0, 1, 2, 23]) (w_0_1_2_23 q cI cJ cD z0 z1 z2) := fun _ _ _ => gD_of hq [0, 1, 2, 23] rfl rfl rfl (fun k h => ⟨k, h, rfl⟩)
  unfold fL_leastRotation at hf
  refine lv_aload_n hx hb dL_leastRotation_0 rfl (lv_at hl 3 rfl) ?_
  refine lv_iconst (v := (0 : Int32)) hx hb dL_leastRotation_1 (by decide) ?_
  refine lv_aload_n hx hb dL_leastRotation_2 rfl (lv_at hl 0 rfl) ?_
  refine lv_iload_n hx hb dL_leastRotation_3 rfl (lv_at hl 1 rfl) ?_
  refine lv_iload_n hx hb dL_leastRotation_4 rfl (lv_at hl 2 rfl) ?_
  rcases bx_some hf with ⟨e5, hc, hf⟩ | ⟨r5, hc, hf⟩
  · try dsimp only at hf
    refine g_callX (ws' := (w_0_1_2_23 q cI cJ cD Tn Ta Oa)) hq [0, 1, 2, 23] [0, 1, 2] [.inl 0, .inl 1, .inl 2, .inr 3] (vx_runV (As := [.int p1, .int p2]) (rest := [.int (0 : Int32), .ref (q 23)]) ⟨hx, hb, hml, hown, hts⟩ (kX8_leastRotationx l hlt D cI cJ cD sa q hq N Tn Ta p1 p2 e5 hc) (cwV 2 hts gL_leastRotation_X8_leastRotation rfl rfl rfl (by decide +kernel) ⟨(Nat.le_of_ble_eq_true rfl), (Nat.le_of_ble_eq_true rfl)⟩) ⟨gPx_blind, va_recv hE.1 hP (ci := 6) (q0 := 0) rfl rfl, fun U hU hW => ⟨rfl, by rw [hU]; exact hP.sub (ws' := (w_0_1_2 q cI cJ cD Tn Ta)) [0, 1, 2] rfl, gEv.warm hW hE, gXe.go hW hS (gMono rfl) hXe hU⟩⟩ rfl rfl hl.1 rfl (lv_room (Nat.le_of_ble_eq_true rfl)) dL_leastRotation_5 ⟨(Nat.le_of_ble_eq_true rfl), (Nat.le_of_ble_eq_true rfl)⟩) hP hS (gSub rfl) rfl rfl rfl rfl (fun ce q9 H locs hP hS hce hcv hcl => ?_)
    by_cases c_1 : e5 = 0
    · have hf := (if_pos c_1).symm.trans hf
      subst c_1
      refine vx_catch (E := "java/lang/IndexOutOfBoundsException") (name := "java/lang/IndexOutOfBoundsException") hown [] ⟨0, 10, 13, 21⟩ [] htab (fun _ h => nomatch h) rfl (by decide) (hts (.classLink RL 21 "java/lang/IndexOutOfBoundsException") (by decide +kernel)) (va_Nw.use rfl (hXe.1.2.1 "java/lang/IndexOutOfBoundsException" (by decide +kernel))) hce hcv hcl ?_
      refine lv_astore (lv' := [(4, .ref q9), (0, .ref (q 0)), (1, .int p1), (2, .int p2), (3, .ref (q 23))]) hx hb dL_leastRotation_13 hl (by decide) rfl (fun ls hl => ?_)
      refine lv_iconst (v := (1 : Int32)) hx hb dL_leastRotation_15 (by decide) ?_
      cases hf
      refine W.widen (k := 1) (n := 6) (Nat.le_of_ble_eq_true rfl) (Nat.le_of_ble_eq_true rfl) ?_
      exact W.iret hx hb hr (fun t ht hW => ⟨⟨rfl, by rw [ht]; exact hP⟩, hS.F ht⟩) hS.2.2 dL_leastRotation_16
    have hf := (if_neg c_1).symm.trans hf
    exact nomatch hf
  try dsimp only at hf
  refine g_call0 (ws' := (w_0_1_2_23 q cI cJ cD Tn Ta Oa)) (st1 := [.int r5, .int (0 : Int32), .ref (q 23)]) hq [0, 1, 2, 23] [0, 1, 2] [.inl 0, .inl 1, .inl 2, .inr 3] (va_runV (As := [.int p1, .int p2]) (rest := [.int (0 : Int32), .ref (q 23)]) ⟨hx, hb, hml, hown, hts⟩ (kX8_leastRotation l D cI cJ cD q hq N Tn Ta p1 p2 r5 hc) (cwV 2 hts gL_leastRotation_X8_leastRotation rfl rfl rfl (by decide +kernel) ⟨(Nat.le_of_ble_eq_true rfl), (Nat.le_of_ble_eq_true rfl)⟩) ⟨gP_blind, va_recv hE.1 hP (ci := 6) (q0 := 0) rfl rfl, fun U hU hW => ⟨rfl, by rw [hU]; exact hP.sub (ws' := (w_0_1_2 q cI cJ cD Tn Ta)) [0, 1, 2] rfl, gEv.warm hW hE⟩⟩ rfl rfl hl.1 rfl (lv_room (Nat.le_of_ble_eq_true rfl)) dL_leastRotation_5 ⟨Nat.zero_le _, Nat.zero_le _⟩) hP hS (gSub rfl) rfl rfl rfl rfl rfl (fun H locs hP hS => ?_)
  refine lv_i2l (v := (r5).toInt64) hx hb dL_leastRotation_8 rfl ?_
  obtain ⟨g_2, hf⟩ := gd_some hf
  refine va_last hx hb hE.1 hP (hDm Tn Ta Oa) hS 3 1 rfl rfl (inb_in g_2) dL_leastRotation_9 (fun H locs hP _ hS => ?_)
  have hP : va_P D vwCl (w_0_1_2_23 q cI cJ cD Tn Ta (vp_updL Oa ((0 : Int32)).toNatClampNeg ((r5).toInt64))) H := hP
  refine lv_goto (tgt := 17) hx hb dL_leastRotation_10 (by decide) ?_
  refine lv_iconst (v := (0 : Int32)) hx hb dL_leastRotation_17 (by decide) ?_
  cases hf
  refine W.widen (k := 1) (n := 6) (Nat.le_of_ble_eq_true rfl) (Nat.le_of_ble_eq_true rfl) ?_
  exact W.iret hx hb hr (fun t ht hW => ⟨⟨rfl, by rw [ht]; exact hP⟩, hS.F ht⟩) hS.2.2 dL_leastRotation_18
set_option maxHeartbeats 4000000 in
set_option maxRecDepth 100000 in
theorem kL_greatestRotation (l : Launch) (hlt : l.stackTraces = false) (D : va_G) (cI cJ cD : ClassId) (sa : Nat → Nat) (q : Nat → Nat) (hq : gInj q) (N : Nat) (Tn : Int32) (Ta : (Nat → Int32)) (Oa : (Nat → Int64)) (p1 : Int32) (p2 : Int32) (r0 : Int32) (Oa9 : (Nat → Int64)) (hf : fL_greatestRotation N Tn Ta Oa p1 p2 = some (r0, Oa9)) : Met l yL_greatestRotation wsL_greatestRotation rL_greatestRotationx (gPx D cI cJ cD sa (gA q [0, 1, 2, 23]) [.ref (q 0), .int p1, .int p2, .ref (q 23)] (w_0_1_2_23 q cI cJ cD Tn Ta Oa)) (gQ D (some (.int r0)) (w_0_1_2_23 q cI cJ cD Tn Ta Oa9) (gA q [0, 1, 2, 23])) 1 6 (gA q [0, 1, 2, 23]) := by
  refine g_ofWH (cc := cL_greatestRotation) (maxL := 5) (ret := (some .int)) (hh := [(0, 10, 13, 21)]) (by decide +kernel) rfl ?_
  intro p e s m args below meth c s₁ B hml hv
  obtain ⟨rfl, hP, hE, hXe⟩ := hv
  have hx := B.exec
  have hb := B.bytes
  have hr := B.returns
  have hts := atoms_spec (ws := wsL_greatestRotation) B.pre
  have hown : s.vm.findClass RL = some m.cls := findClass_of_methodNamed B.named
  have hlocks := B.notSynchronized
  have htab : c.exceptionTable.toList = [⟨0, 10, 13, 21⟩] := vx_table (x := yL_greatestRotation) B (hts _ List.mem_cons_self)
  have hS : va_S (gA q [0, 1, 2, 23]) s.heap s.heap [] := va_S.rf
  have hl := lv_entry ([.ref (q 0), .int p1, .int p2, .ref (q 23)]) (n := 5) (Nat.le_of_ble_eq_true rfl)
  rw [lg_entry_eq]
  generalize (lg_sl ([.ref (q 0), .int p1, .int p2, .ref (q 23)]) ++ List.replicate (5 - (lg_sl ([.ref (q 0), .int p1, .int p2, .ref (q 23)])).length) Slot.unset).toArray = ls at hl ⊢
  have hl : lv_has ls 5 [(0, .ref (q 0)), (1, .int p1), (2, .int p2), (3, .ref (q 23))] := hl
  have hDm : ∀ (z0 : Int32) (z1 : (Nat → Int32)) (z2 : (Nat → Int64)), va_D (gA q [0, 1, 2, 23]) (w_0_1_2_23 q cI cJ cD z0 z1 z2) := fun _ _ _ => gD_of hq [0, 1, 2, 23] rfl rfl rfl (fun k h => ⟨k, h, rfl⟩)
  unfold fL_greatestRotation at hf
  refine lv_aload_n hx hb dL_greatestRotation_0 rfl (lv_at hl 3 rfl) ?_
  refine lv_iconst (v := (0 : Int32)) hx hb dL_greatestRotation_1 (by decide) ?_
  refine lv_aload_n hx hb dL_greatestRotation_2 rfl (lv_at hl 0 rfl) ?_
  refine lv_iload_n hx hb dL_greatestRotation_3 rfl (lv_at hl 1 rfl) ?_
  refine lv_iload_n hx hb dL_greatestRotation_4 rfl (lv_at hl 2 rfl) ?_
  rcases bx_some hf with ⟨e5, hc, hf⟩ | ⟨r5, hc, hf⟩
  · try dsimp only at hf
    refine g_callX (ws' := (w_0_1_2_23 q cI cJ cD Tn Ta Oa)) hq [0, 1, 2, 23] [0, 1, 2] [.inl 0, .inl 1, .inl 2, .inr 3] (vx_runV (As := [.int p1, .int p2]) (rest := [.int (0 : Int32), .ref (q 23)]) ⟨hx, hb, hml, hown, hts⟩ (kX8_greatestRotationx l hlt D cI cJ cD sa q hq N Tn Ta p1 p2 e5 hc) (cwV 2 hts gL_greatestRotation_X8_greatestRotation rfl rfl rfl (by decide +kernel) ⟨(Nat.le_of_ble_eq_true rfl), (Nat.le_of_ble_eq_true rfl)⟩) ⟨gPx_blind, va_recv hE.1 hP (ci := 6) (q0 := 0) rfl rfl, fun U hU hW => ⟨rfl, by rw [hU]; exact hP.sub (ws' := (w_0_1_2 q cI cJ cD Tn Ta)) [0, 1, 2] rfl, gEv.warm hW hE, gXe.go hW hS (gMono rfl) hXe hU⟩⟩ rfl rfl hl.1 rfl (lv_room (Nat.le_of_ble_eq_true rfl)) dL_greatestRotation_5 ⟨(Nat.le_of_ble_eq_true rfl), (Nat.le_of_ble_eq_true rfl)⟩) hP hS (gSub rfl) rfl rfl rfl rfl (fun ce q9 H locs hP hS hce hcv hcl => ?_)
    by_cases c_1 : e5 = 0
    · have hf := (if_pos c_1).symm.trans hf
      subst c_1
      refine vx_catch (E := "java/lang/IndexOutOfBoundsException") (name := "java/lang/IndexOutOfBoundsException") hown [] ⟨0, 10, 13, 21⟩ [] htab (fun _ h => nomatch h) rfl (by decide) (hts (.classLink RL 21 "java/lang/IndexOutOfBoundsException") (by decide +kernel)) (va_Nw.use rfl (hXe.1.2.1 "java/lang/IndexOutOfBoundsException" (by decide +kernel))) hce hcv hcl ?_
      refine lv_astore (lv' := [(4, .ref q9), (0, .ref (q 0)), (1, .int p1), (2, .int p2), (3, .ref (q 23))]) hx hb dL_greatestRotation_13 hl (by decide) rfl (fun ls hl => ?_)
      refine lv_iconst (v := (1 : Int32)) hx hb dL_greatestRotation_15 (by decide) ?_
      cases hf
      refine W.widen (k := 1) (n := 6) (Nat.le_of_ble_eq_true rfl) (Nat.le_of_ble_eq_true rfl) ?_
      exact W.iret hx hb hr (fun t ht hW => ⟨⟨rfl, by rw [ht]; exact hP⟩, hS.F ht⟩) hS.2.2 dL_greatestRotation_16
    have hf := (if_neg c_1).symm.trans hf
    exact nomatch hf
  try dsimp only at hf
  refine g_call0 (ws' := (w_0_1_2_23 q cI cJ cD Tn Ta Oa)) (st1 := [.int r5, .int (0 : Int32), .ref (q 23)]) hq [0, 1, 2, 23] [0, 1, 2] [.inl 0, .inl 1, .inl 2, .inr 3] (va_runV (As := [.int p1, .int p2]) (rest := [.int (0 : Int32), .ref (q 23)]) ⟨hx, hb, hml, hown, hts⟩ (kX8_greatestRotation l D cI cJ cD q hq N Tn Ta p1 p2 r5 hc) (cwV 2 hts gL_greatestRotation_X8_greatestRotation rfl rfl rfl (by decide +kernel) ⟨(Nat.le_of_ble_eq_true rfl), (Nat.le_of_ble_eq_true rfl)⟩) ⟨gP_blind, va_recv hE.1 hP (ci := 6) (q0 := 0) rfl rfl, fun U hU hW => ⟨rfl, by rw [hU]; exact hP.sub (ws' := (w_0_1_2 q cI cJ cD Tn Ta)) [0, 1, 2] rfl, gEv.warm hW hE⟩⟩ rfl rfl hl.1 rfl (lv_room (Nat.le_of_ble_eq_true rfl)) dL_greatestRotation_5 ⟨Nat.zero_le _, Nat.zero_le _⟩) hP hS (gSub rfl) rfl rfl rfl rfl rfl (fun H locs hP hS => ?_)
  refine lv_i2l (v := (r5).toInt64) hx hb dL_greatestRotation_8 rfl ?_
  obtain ⟨g_2, hf⟩ := gd_some hf
  refine va_last hx hb hE.1 hP (hDm Tn Ta Oa) hS 3 1 rfl rfl (inb_in g_2) dL_greatestRotation_9 (fun H locs hP _ hS => ?_)
  have hP : va_P D vwCl (w_0_1_2_23 q cI cJ cD Tn Ta (vp_updL Oa ((0 : Int32)).toNatClampNeg ((r5).toInt64))) H := hP
  refine lv_goto (tgt := 17) hx hb dL_greatestRotation_10 (by decide) ?_
  refine lv_iconst (v := (0 : Int32)) hx hb dL_greatestRotation_17 (by decide) ?_
  cases hf
  refine W.widen (k := 1) (n := 6) (Nat.le_of_ble_eq_true rfl) (Nat.le_of_ble_eq_true rfl) ?_
  exact W.iret hx hb hr (fun t ht hW => ⟨⟨rfl, by rw [ht]; exact hP⟩, hS.F ht⟩) hS.2.2 dL_greatestRotation_18
set_option maxHeartbeats 4000000 in
set_option maxRecDepth 100000 in
theorem kL_rotations (l : Launch) (hlt : l.stackTraces = false) (D : va_G) (cI cJ cD : ClassId) (sa : Nat → Nat) (q : Nat → Nat) (hq : gInj q) (N : Nat) (Tn : Int32) (Ta : (Nat → Int32)) (Ba : (Nat → Int32)) (Oa : (Nat → Int64)) (p1 : Int32) (p2 : Int32) (r0 : Int32) (Ba9 : (Nat → Int32)) (Oa9 : (Nat → Int64)) (hf : fL_rotations N Tn Ta Ba Oa p1 p2 = some (r0, Ba9, Oa9)) : Met l yL_rotations wsL_rotations rL_rotationsx (gPx D cI cJ cD sa (gA q [0, 1, 2, 5, 6, 23]) [.ref (q 0), .int p1, .int p2, .ref (q 23)] (w_0_1_2_5_6_23 q cI cJ cD Tn Ta Ba Oa)) (gQ D (some (.int r0)) (w_0_1_2_5_6_23 q cI cJ cD Tn Ta Ba9 Oa9) (gA q [0, 1, 2, 5, 6, 23])) 1 6 (gA q [0, 1, 2, 5, 6, 23]) := by
  refine g_ofWH (cc := cL_rotations) (maxL := 5) (ret := (some .int)) (hh := [(0, 10, 13, 21)]) (by decide +kernel) rfl ?_
  intro p e s m args below meth c s₁ B hml hv
  obtain ⟨rfl, hP, hE, hXe⟩ := hv
  have hx := B.exec
  have hb := B.bytes
  have hr := B.returns
  have hts := atoms_spec (ws := wsL_rotations) B.pre
  have hown : s.vm.findClass RL = some m.cls := findClass_of_methodNamed B.named
  have hlocks := B.notSynchronized
  have htab : c.exceptionTable.toList = [⟨0, 10, 13, 21⟩] := vx_table (x := yL_rotations) B (hts _ List.mem_cons_self)
  have hS : va_S (gA q [0, 1, 2, 5, 6, 23]) s.heap s.heap [] := va_S.rf
  have hl := lv_entry ([.ref (q 0), .int p1, .int p2, .ref (q 23)]) (n := 5) (Nat.le_of_ble_eq_true rfl)
  rw [lg_entry_eq]
  generalize (lg_sl ([.ref (q 0), .int p1, .int p2, .ref (q 23)]) ++ List.replicate (5 - (lg_sl ([.ref (q 0), .int p1, .int p2, .ref (q 23)])).length) Slot.unset).toArray = ls at hl ⊢
  have hl : lv_has ls 5 [(0, .ref (q 0)), (1, .int p1), (2, .int p2), (3, .ref (q 23))] := hl
  have hDm : ∀ (z0 : Int32) (z1 : (Nat → Int32)) (z2 : (Nat → Int32)) (z3 : (Nat → Int64)), va_D (gA q [0, 1, 2, 5, 6, 23]) (w_0_1_2_5_6_23 q cI cJ cD z0 z1 z2 z3) := fun _ _ _ _ => gD_of hq [0, 1, 2, 5, 6, 23] rfl rfl rfl (fun k h => ⟨k, h, rfl⟩)
  unfold fL_rotations at hf
  refine lv_aload_n hx hb dL_rotations_0 rfl (lv_at hl 3 rfl) ?_
  refine lv_iconst (v := (0 : Int32)) hx hb dL_rotations_1 (by decide) ?_
  refine lv_aload_n hx hb dL_rotations_2 rfl (lv_at hl 0 rfl) ?_
  refine lv_iload_n hx hb dL_rotations_3 rfl (lv_at hl 1 rfl) ?_
  refine lv_iload_n hx hb dL_rotations_4 rfl (lv_at hl 2 rfl) ?_
  rcases bx_some hf with ⟨⟨e5, Ba5⟩, hc, hf⟩ | ⟨⟨r5, Ba5⟩, hc, hf⟩
  · try dsimp only at hf
    refine g_callX (ws' := (w_0_1_2_5_6_23 q cI cJ cD Tn Ta Ba5 Oa)) hq [0, 1, 2, 5, 6, 23] [0, 1, 2, 5, 6] [.inl 0, .inl 1, .inl 2, .inl 3, .inl 4, .inr 5] (vx_runV (As := [.int p1, .int p2]) (rest := [.int (0 : Int32), .ref (q 23)]) ⟨hx, hb, hml, hown, hts⟩ (kX8_rotationsx l hlt D cI cJ cD sa q hq N Tn Ta Ba p1 p2 e5 Ba5 hc) (cwV 2 hts gL_rotations_X8_rotations rfl rfl rfl (by decide +kernel) ⟨(Nat.le_of_ble_eq_true rfl), (Nat.le_of_ble_eq_true rfl)⟩) ⟨gPx_blind, va_recv hE.1 hP (ci := 6) (q0 := 0) rfl rfl, fun U hU hW => ⟨rfl, by rw [hU]; exact hP.sub (ws' := (w_0_1_2_5_6 q cI cJ cD Tn Ta Ba)) [0, 1, 2, 3, 4] rfl, gEv.warm hW hE, gXe.go hW hS (gMono rfl) hXe hU⟩⟩ rfl rfl hl.1 rfl (lv_room (Nat.le_of_ble_eq_true rfl)) dL_rotations_5 ⟨(Nat.le_of_ble_eq_true rfl), (Nat.le_of_ble_eq_true rfl)⟩) hP hS (gSub rfl) rfl rfl rfl rfl (fun ce q9 H locs hP hS hce hcv hcl => ?_)
    by_cases c_1 : e5 = 0
    · have hf := (if_pos c_1).symm.trans hf
      subst c_1
      refine vx_catch (E := "java/lang/IndexOutOfBoundsException") (name := "java/lang/IndexOutOfBoundsException") hown [] ⟨0, 10, 13, 21⟩ [] htab (fun _ h => nomatch h) rfl (by decide) (hts (.classLink RL 21 "java/lang/IndexOutOfBoundsException") (by decide +kernel)) (va_Nw.use rfl (hXe.1.2.1 "java/lang/IndexOutOfBoundsException" (by decide +kernel))) hce hcv hcl ?_
      refine lv_astore (lv' := [(4, .ref q9), (0, .ref (q 0)), (1, .int p1), (2, .int p2), (3, .ref (q 23))]) hx hb dL_rotations_13 hl (by decide) rfl (fun ls hl => ?_)
      refine lv_iconst (v := (1 : Int32)) hx hb dL_rotations_15 (by decide) ?_
      cases hf
      refine W.widen (k := 1) (n := 6) (Nat.le_of_ble_eq_true rfl) (Nat.le_of_ble_eq_true rfl) ?_
      exact W.iret hx hb hr (fun t ht hW => ⟨⟨rfl, by rw [ht]; exact hP⟩, hS.F ht⟩) hS.2.2 dL_rotations_16
    have hf := (if_neg c_1).symm.trans hf
    exact nomatch hf
  try dsimp only at hf
  refine g_call0 (ws' := (w_0_1_2_5_6_23 q cI cJ cD Tn Ta Ba5 Oa)) (st1 := [.int r5, .int (0 : Int32), .ref (q 23)]) hq [0, 1, 2, 5, 6, 23] [0, 1, 2, 5, 6] [.inl 0, .inl 1, .inl 2, .inl 3, .inl 4, .inr 5] (va_runV (As := [.int p1, .int p2]) (rest := [.int (0 : Int32), .ref (q 23)]) ⟨hx, hb, hml, hown, hts⟩ (kX8_rotations l D cI cJ cD q hq N Tn Ta Ba p1 p2 r5 Ba5 hc) (cwV 2 hts gL_rotations_X8_rotations rfl rfl rfl (by decide +kernel) ⟨(Nat.le_of_ble_eq_true rfl), (Nat.le_of_ble_eq_true rfl)⟩) ⟨gP_blind, va_recv hE.1 hP (ci := 6) (q0 := 0) rfl rfl, fun U hU hW => ⟨rfl, by rw [hU]; exact hP.sub (ws' := (w_0_1_2_5_6 q cI cJ cD Tn Ta Ba)) [0, 1, 2, 3, 4] rfl, gEv.warm hW hE⟩⟩ rfl rfl hl.1 rfl (lv_room (Nat.le_of_ble_eq_true rfl)) dL_rotations_5 ⟨Nat.zero_le _, Nat.zero_le _⟩) hP hS (gSub rfl) rfl rfl rfl rfl rfl (fun H locs hP hS => ?_)
  refine lv_i2l (v := (r5).toInt64) hx hb dL_rotations_8 rfl ?_
  obtain ⟨g_2, hf⟩ := gd_some hf
  refine va_last hx hb hE.1 hP (hDm Tn Ta Ba5 Oa) hS 5 1 rfl rfl (inb_in g_2) dL_rotations_9 (fun H locs hP _ hS => ?_)
  have hP : va_P D vwCl (w_0_1_2_5_6_23 q cI cJ cD Tn Ta Ba5 (vp_updL Oa ((0 : Int32)).toNatClampNeg ((r5).toInt64))) H := hP
  refine lv_goto (tgt := 17) hx hb dL_rotations_10 (by decide) ?_
  refine lv_iconst (v := (0 : Int32)) hx hb dL_rotations_17 (by decide) ?_
  cases hf
  refine W.widen (k := 1) (n := 6) (Nat.le_of_ble_eq_true rfl) (Nat.le_of_ble_eq_true rfl) ?_
  exact W.iret hx hb hr (fun t ht hW => ⟨⟨rfl, by rw [ht]; exact hP⟩, hS.F ht⟩) hS.2.2 dL_rotations_18
set_option maxHeartbeats 4000000 in
set_option maxRecDepth 100000 in
theorem kL_isNecklace (l : Launch) (hlt : l.stackTraces = false) (D : va_G) (cI cJ cD : ClassId) (sa : Nat → Nat) (q : Nat → Nat) (hq : gInj q) (N : Nat) (Tn : Int32) (Ta : (Nat → Int32)) (Oa : (Nat → Int64)) (p1 : Int32) (p2 : Int32) (r0 : Int32) (Oa9 : (Nat → Int64)) (hf : fL_isNecklace N Tn Ta Oa p1 p2 = some (r0, Oa9)) : Met l yL_isNecklace wsL_isNecklace rL_isNecklacex (gPx D cI cJ cD sa (gA q [0, 1, 2, 23]) [.ref (q 0), .int p1, .int p2, .ref (q 23)] (w_0_1_2_23 q cI cJ cD Tn Ta Oa)) (gQ D (some (.int r0)) (w_0_1_2_23 q cI cJ cD Tn Ta Oa9) (gA q [0, 1, 2, 23])) 1 6 (gA q [0, 1, 2, 23]) := by
  refine g_ofWH (cc := cL_isNecklace) (maxL := 5) (ret := (some .int)) (hh := [(0, 17, 20, 21)]) (by decide +kernel) rfl ?_
  intro p e s m args below meth c s₁ B hml hv
  obtain ⟨rfl, hP, hE, hXe⟩ := hv
  have hx := B.exec
  have hb := B.bytes
  have hr := B.returns
  have hts := atoms_spec (ws := wsL_isNecklace) B.pre
  have hown : s.vm.findClass RL = some m.cls := findClass_of_methodNamed B.named
  have hlocks := B.notSynchronized
  have htab : c.exceptionTable.toList = [⟨0, 17, 20, 21⟩] := vx_table (x := yL_isNecklace) B (hts _ List.mem_cons_self)
  have hS : va_S (gA q [0, 1, 2, 23]) s.heap s.heap [] := va_S.rf
  have hl := lv_entry ([.ref (q 0), .int p1, .int p2, .ref (q 23)]) (n := 5) (Nat.le_of_ble_eq_true rfl)
  rw [lg_entry_eq]
  generalize (lg_sl ([.ref (q 0), .int p1, .int p2, .ref (q 23)]) ++ List.replicate (5 - (lg_sl ([.ref (q 0), .int p1, .int p2, .ref (q 23)])).length) Slot.unset).toArray = ls at hl ⊢
  have hl : lv_has ls 5 [(0, .ref (q 0)), (1, .int p1), (2, .int p2), (3, .ref (q 23))] := hl
  have hDm : ∀ (z0 : Int32) (z1 : (Nat → Int32)) (z2 : (Nat → Int64)), va_D (gA q [0, 1, 2, 23]) (w_0_1_2_23 q cI cJ cD z0 z1 z2) := fun _ _ _ => gD_of hq [0, 1, 2, 23] rfl rfl rfl (fun k h => ⟨k, h, rfl⟩)
  have J16 : ∀ (Oa : (Nat → Int64)) (y1 : Int32) (y2 : Int64), fL_isNecklace_J16 N Tn Ta Oa y1 y2 = some (r0, Oa9) → ∀ (H : Heap) (locs : List Loc), va_P D vwCl (w_0_1_2_23 q cI cJ cD Tn Ta Oa) H → va_S (gA q [0, 1, 2, 23]) s.heap H locs → ∀ ls : Array Slot, lv_has ls 5 [] → W p l e (headSpec wsL_isNecklace rL_isNecklacex).room s m ([.ref (q 0), .int p1, .int p2, .ref (q 23)] : List Value).toArray below meth c H locs 0 0 (MQ below (gQ D (some (.int r0)) (w_0_1_2_23 q cI cJ cD Tn Ta Oa9) (gA q [0, 1, 2, 23])) ([.ref (q 0), .int p1, .int p2, .ref (q 23)] : List Value).toArray s 1 6 (gA q [0, 1, 2, 23])) (F0 m 16 ls [.long y2, .int y1, .ref (q 23)]) := by
    intro Oa y1 y2 hf H locs hP hS ls hl
    unfold fL_isNecklace_J16 at hf
    obtain ⟨g_1, hf⟩ := gd_some hf
    refine va_last hx hb hE.1 hP (hDm Tn Ta Oa) hS 3 1 rfl rfl (inb_in g_1) dL_isNecklace_16 (fun H locs hP _ hS => ?_)
    have hP : va_P D vwCl (w_0_1_2_23 q cI cJ cD Tn Ta (vp_updL Oa (y1).toNatClampNeg y2)) H := hP
    refine lv_goto (tgt := 24) hx hb dL_isNecklace_17 (by decide) ?_
    refine lv_iconst (v := (0 : Int32)) hx hb dL_isNecklace_24 (by decide) ?_
    cases hf
    refine W.widen (k := 1) (n := 6) (Nat.le_of_ble_eq_true rfl) (Nat.le_of_ble_eq_true rfl) ?_
    exact W.iret hx hb hr (fun t ht hW => ⟨⟨rfl, by rw [ht]; exact hP⟩, hS.F ht⟩) hS.2.2 dL_isNecklace_25
  unfold fL_isNecklace at hf
  refine lv_aload_n hx hb dL_isNecklace_0 rfl (lv_at hl 3 rfl) ?_
  refine lv_iconst (v := (0 : Int32)) hx hb dL_isNecklace_1 (by decide) ?_
  refine lv_aload_n hx hb dL_isNecklace_2 rfl (lv_at hl 0 rfl) ?_
  refine lv_iload_n hx hb dL_isNecklace_3 rfl (lv_at hl 1 rfl) ?_
  refine lv_iload_n hx hb dL_isNecklace_4 rfl (lv_at hl 2 rfl) ?_
  rcases bx_some hf with ⟨e5, hc, hf⟩ | ⟨r5, hc, hf⟩
  · try dsimp only at hf
    refine g_callX (ws' := (w_0_1_2_23 q cI cJ cD Tn Ta Oa)) hq [0, 1, 2, 23] [0, 1, 2] [.inl 0, .inl 1, .inl 2, .inr 3] (vx_runV (As := [.int p1, .int p2]) (rest := [.int (0 : Int32), .ref (q 23)]) ⟨hx, hb, hml, hown, hts⟩ (kX8_isNecklacex l hlt D cI cJ cD sa q hq N Tn Ta p1 p2 e5 hc) (cwV 2 hts gL_isNecklace_X8_isNecklace rfl rfl rfl (by decide +kernel) ⟨(Nat.le_of_ble_eq_true rfl), (Nat.le_of_ble_eq_true rfl)⟩) ⟨gPx_blind, va_recv hE.1 hP (ci := 6) (q0 := 0) rfl rfl, fun U hU hW => ⟨rfl, by rw [hU]; exact hP.sub (ws' := (w_0_1_2 q cI cJ cD Tn Ta)) [0, 1, 2] rfl, gEv.warm hW hE, gXe.go hW hS (gMono rfl) hXe hU⟩⟩ rfl rfl hl.1 rfl (lv_room (Nat.le_of_ble_eq_true rfl)) dL_isNecklace_5 ⟨(Nat.le_of_ble_eq_true rfl), (Nat.le_of_ble_eq_true rfl)⟩) hP hS (gSub rfl) rfl rfl rfl rfl (fun ce q9 H locs hP hS hce hcv hcl => ?_)
    by_cases c_2 : e5 = 0
    · have hf := (if_pos c_2).symm.trans hf
      subst c_2
      refine vx_catch (E := "java/lang/IndexOutOfBoundsException") (name := "java/lang/IndexOutOfBoundsException") hown [] ⟨0, 17, 20, 21⟩ [] htab (fun _ h => nomatch h) rfl (by decide) (hts (.classLink RL 21 "java/lang/IndexOutOfBoundsException") (by decide +kernel)) (va_Nw.use rfl (hXe.1.2.1 "java/lang/IndexOutOfBoundsException" (by decide +kernel))) hce hcv hcl ?_
      refine lv_astore (lv' := [(4, .ref q9), (0, .ref (q 0)), (1, .int p1), (2, .int p2), (3, .ref (q 23))]) hx hb dL_isNecklace_20 hl (by decide) rfl (fun ls hl => ?_)
      refine lv_iconst (v := (1 : Int32)) hx hb dL_isNecklace_22 (by decide) ?_
      cases hf
      refine W.widen (k := 1) (n := 6) (Nat.le_of_ble_eq_true rfl) (Nat.le_of_ble_eq_true rfl) ?_
      exact W.iret hx hb hr (fun t ht hW => ⟨⟨rfl, by rw [ht]; exact hP⟩, hS.F ht⟩) hS.2.2 dL_isNecklace_23
    have hf := (if_neg c_2).symm.trans hf
    exact nomatch hf
  try dsimp only at hf
  refine g_call0 (ws' := (w_0_1_2_23 q cI cJ cD Tn Ta Oa)) (st1 := [.int r5, .int (0 : Int32), .ref (q 23)]) hq [0, 1, 2, 23] [0, 1, 2] [.inl 0, .inl 1, .inl 2, .inr 3] (va_runV (As := [.int p1, .int p2]) (rest := [.int (0 : Int32), .ref (q 23)]) ⟨hx, hb, hml, hown, hts⟩ (kX8_isNecklace l D cI cJ cD q hq N Tn Ta p1 p2 r5 hc) (cwV 2 hts gL_isNecklace_X8_isNecklace rfl rfl rfl (by decide +kernel) ⟨(Nat.le_of_ble_eq_true rfl), (Nat.le_of_ble_eq_true rfl)⟩) ⟨gP_blind, va_recv hE.1 hP (ci := 6) (q0 := 0) rfl rfl, fun U hU hW => ⟨rfl, by rw [hU]; exact hP.sub (ws' := (w_0_1_2 q cI cJ cD Tn Ta)) [0, 1, 2] rfl, gEv.warm hW hE⟩⟩ rfl rfl hl.1 rfl (lv_room (Nat.le_of_ble_eq_true rfl)) dL_isNecklace_5 ⟨Nat.zero_le _, Nat.zero_le _⟩) hP hS (gSub rfl) rfl rfl rfl rfl rfl (fun H locs hP hS => ?_)
  refine lv_if_eq (tgt := 15) hx hb dL_isNecklace_8 (by decide) (fun c_3 => ?_) (fun c_3 => ?_)
  · have hf := (if_pos c_3).symm.trans hf
    refine lv_lconst (v := (0 : Int64)) hx hb dL_isNecklace_15 (by decide) ?_
    exact J16 Oa (0 : Int32) (0 : Int64) hf _ _ hP hS _ (lv_sub hl [] rfl)
  · have hf := (if_neg c_3).symm.trans hf
    refine lv_lconst (v := (1 : Int64)) hx hb dL_isNecklace_11 (by decide) ?_
    refine lv_goto (tgt := 16) hx hb dL_isNecklace_12 (by decide) ?_
    exact J16 Oa (0 : Int32) (1 : Int64) hf _ _ hP hS _ (lv_sub hl [] rfl)
set_option maxHeartbeats 4000000 in
set_option maxRecDepth 100000 in
theorem kL_period (l : Launch) (hlt : l.stackTraces = false) (D : va_G) (cI cJ cD : ClassId) (sa : Nat → Nat) (q : Nat → Nat) (hq : gInj q) (N : Nat) (Tn : Int32) (Ta : (Nat → Int32)) (Ba : (Nat → Int32)) (Oa : (Nat → Int64)) (p1 : Int32) (p2 : Int32) (r0 : Int32) (Ba9 : (Nat → Int32)) (Oa9 : (Nat → Int64)) (hf : fL_period N Tn Ta Ba Oa p1 p2 = some (r0, Ba9, Oa9)) : Met l yL_period wsL_period rL_periodx (gPx D cI cJ cD sa (gA q [0, 1, 2, 5, 6, 23]) [.ref (q 0), .int p1, .int p2, .ref (q 23)] (w_0_1_2_5_6_23 q cI cJ cD Tn Ta Ba Oa)) (gQ D (some (.int r0)) (w_0_1_2_5_6_23 q cI cJ cD Tn Ta Ba9 Oa9) (gA q [0, 1, 2, 5, 6, 23])) 1 6 (gA q [0, 1, 2, 5, 6, 23]) := by
  refine g_ofWH (cc := cL_period) (maxL := 5) (ret := (some .int)) (hh := [(0, 10, 13, 21)]) (by decide +kernel) rfl ?_
  intro p e s m args below meth c s₁ B hml hv
  obtain ⟨rfl, hP, hE, hXe⟩ := hv
  have hx := B.exec
  have hb := B.bytes
  have hr := B.returns
  have hts := atoms_spec (ws := wsL_period) B.pre
  have hown : s.vm.findClass RL = some m.cls := findClass_of_methodNamed B.named
  have hlocks := B.notSynchronized
  have htab : c.exceptionTable.toList = [⟨0, 10, 13, 21⟩] := vx_table (x := yL_period) B (hts _ List.mem_cons_self)
  have hS : va_S (gA q [0, 1, 2, 5, 6, 23]) s.heap s.heap [] := va_S.rf
  have hl := lv_entry ([.ref (q 0), .int p1, .int p2, .ref (q 23)]) (n := 5) (Nat.le_of_ble_eq_true rfl)
  rw [lg_entry_eq]
  generalize (lg_sl ([.ref (q 0), .int p1, .int p2, .ref (q 23)]) ++ List.replicate (5 - (lg_sl ([.ref (q 0), .int p1, .int p2, .ref (q 23)])).length) Slot.unset).toArray = ls at hl ⊢
  have hl : lv_has ls 5 [(0, .ref (q 0)), (1, .int p1), (2, .int p2), (3, .ref (q 23))] := hl
  have hDm : ∀ (z0 : Int32) (z1 : (Nat → Int32)) (z2 : (Nat → Int32)) (z3 : (Nat → Int64)), va_D (gA q [0, 1, 2, 5, 6, 23]) (w_0_1_2_5_6_23 q cI cJ cD z0 z1 z2 z3) := fun _ _ _ _ => gD_of hq [0, 1, 2, 5, 6, 23] rfl rfl rfl (fun k h => ⟨k, h, rfl⟩)
  unfold fL_period at hf
  refine lv_aload_n hx hb dL_period_0 rfl (lv_at hl 3 rfl) ?_
  refine lv_iconst (v := (0 : Int32)) hx hb dL_period_1 (by decide) ?_
  refine lv_aload_n hx hb dL_period_2 rfl (lv_at hl 0 rfl) ?_
  refine lv_iload_n hx hb dL_period_3 rfl (lv_at hl 1 rfl) ?_
  refine lv_iload_n hx hb dL_period_4 rfl (lv_at hl 2 rfl) ?_
  rcases bx_some hf with ⟨⟨e5, Ba5⟩, hc, hf⟩ | ⟨⟨r5, Ba5⟩, hc, hf⟩
  · try dsimp only at hf
    refine g_callX (ws' := (w_0_1_2_5_6_23 q cI cJ cD Tn Ta Ba5 Oa)) hq [0, 1, 2, 5, 6, 23] [0, 1, 2, 5, 6] [.inl 0, .inl 1, .inl 2, .inl 3, .inl 4, .inr 5] (vx_runV (As := [.int p1, .int p2]) (rest := [.int (0 : Int32), .ref (q 23)]) ⟨hx, hb, hml, hown, hts⟩ (kX8_periodx l hlt D cI cJ cD sa q hq N Tn Ta Ba p1 p2 e5 Ba5 hc) (cwV 2 hts gL_period_X8_period rfl rfl rfl (by decide +kernel) ⟨(Nat.le_of_ble_eq_true rfl), (Nat.le_of_ble_eq_true rfl)⟩) ⟨gPx_blind, va_recv hE.1 hP (ci := 6) (q0 := 0) rfl rfl, fun U hU hW => ⟨rfl, by rw [hU]; exact hP.sub (ws' := (w_0_1_2_5_6 q cI cJ cD Tn Ta Ba)) [0, 1, 2, 3, 4] rfl, gEv.warm hW hE, gXe.go hW hS (gMono rfl) hXe hU⟩⟩ rfl rfl hl.1 rfl (lv_room (Nat.le_of_ble_eq_true rfl)) dL_period_5 ⟨(Nat.le_of_ble_eq_true rfl), (Nat.le_of_ble_eq_true rfl)⟩) hP hS (gSub rfl) rfl rfl rfl rfl (fun ce q9 H locs hP hS hce hcv hcl => ?_)
    by_cases c_1 : e5 = 0
    · have hf := (if_pos c_1).symm.trans hf
      subst c_1
      refine vx_catch (E := "java/lang/IndexOutOfBoundsException") (name := "java/lang/IndexOutOfBoundsException") hown [] ⟨0, 10, 13, 21⟩ [] htab (fun _ h => nomatch h) rfl (by decide) (hts (.classLink RL 21 "java/lang/IndexOutOfBoundsException") (by decide +kernel)) (va_Nw.use rfl (hXe.1.2.1 "java/lang/IndexOutOfBoundsException" (by decide +kernel))) hce hcv hcl ?_
      refine lv_astore (lv' := [(4, .ref q9), (0, .ref (q 0)), (1, .int p1), (2, .int p2), (3, .ref (q 23))]) hx hb dL_period_13 hl (by decide) rfl (fun ls hl => ?_)
      refine lv_iconst (v := (1 : Int32)) hx hb dL_period_15 (by decide) ?_
      cases hf
      refine W.widen (k := 1) (n := 6) (Nat.le_of_ble_eq_true rfl) (Nat.le_of_ble_eq_true rfl) ?_
      exact W.iret hx hb hr (fun t ht hW => ⟨⟨rfl, by rw [ht]; exact hP⟩, hS.F ht⟩) hS.2.2 dL_period_16
    have hf := (if_neg c_1).symm.trans hf
    exact nomatch hf
  try dsimp only at hf
  refine g_call0 (ws' := (w_0_1_2_5_6_23 q cI cJ cD Tn Ta Ba5 Oa)) (st1 := [.int r5, .int (0 : Int32), .ref (q 23)]) hq [0, 1, 2, 5, 6, 23] [0, 1, 2, 5, 6] [.inl 0, .inl 1, .inl 2, .inl 3, .inl 4, .inr 5] (va_runV (As := [.int p1, .int p2]) (rest := [.int (0 : Int32), .ref (q 23)]) ⟨hx, hb, hml, hown, hts⟩ (kX8_period l D cI cJ cD q hq N Tn Ta Ba p1 p2 r5 Ba5 hc) (cwV 2 hts gL_period_X8_period rfl rfl rfl (by decide +kernel) ⟨(Nat.le_of_ble_eq_true rfl), (Nat.le_of_ble_eq_true rfl)⟩) ⟨gP_blind, va_recv hE.1 hP (ci := 6) (q0 := 0) rfl rfl, fun U hU hW => ⟨rfl, by rw [hU]; exact hP.sub (ws' := (w_0_1_2_5_6 q cI cJ cD Tn Ta Ba)) [0, 1, 2, 3, 4] rfl, gEv.warm hW hE⟩⟩ rfl rfl hl.1 rfl (lv_room (Nat.le_of_ble_eq_true rfl)) dL_period_5 ⟨Nat.zero_le _, Nat.zero_le _⟩) hP hS (gSub rfl) rfl rfl rfl rfl rfl (fun H locs hP hS => ?_)
  refine lv_i2l (v := (r5).toInt64) hx hb dL_period_8 rfl ?_
  obtain ⟨g_2, hf⟩ := gd_some hf
  refine va_last hx hb hE.1 hP (hDm Tn Ta Ba5 Oa) hS 5 1 rfl rfl (inb_in g_2) dL_period_9 (fun H locs hP _ hS => ?_)
  have hP : va_P D vwCl (w_0_1_2_5_6_23 q cI cJ cD Tn Ta Ba5 (vp_updL Oa ((0 : Int32)).toNatClampNeg ((r5).toInt64))) H := hP
  refine lv_goto (tgt := 17) hx hb dL_period_10 (by decide) ?_
  refine lv_iconst (v := (0 : Int32)) hx hb dL_period_17 (by decide) ?_
  cases hf
  refine W.widen (k := 1) (n := 6) (Nat.le_of_ble_eq_true rfl) (Nat.le_of_ble_eq_true rfl) ?_
  exact W.iret hx hb hr (fun t ht hW => ⟨⟨rfl, by rw [ht]; exact hP⟩, hS.F ht⟩) hS.2.2 dL_period_18
set_option maxHeartbeats 4000000 in
set_option maxRecDepth 100000 in
theorem kL_periodByTrying (l : Launch) (hlt : l.stackTraces = false) (D : va_G) (cI cJ cD : ClassId) (sa : Nat → Nat) (q : Nat → Nat) (hq : gInj q) (N : Nat) (Tn : Int32) (Ta : (Nat → Int32)) (Oa : (Nat → Int64)) (p1 : Int32) (p2 : Int32) (r0 : Int32) (Oa9 : (Nat → Int64)) (hf : fL_periodByTrying N Tn Ta Oa p1 p2 = some (r0, Oa9)) : Met l yL_periodByTrying wsL_periodByTrying rL_periodByTryingx (gPx D cI cJ cD sa (gA q [0, 1, 2, 23]) [.ref (q 0), .int p1, .int p2, .ref (q 23)] (w_0_1_2_23 q cI cJ cD Tn Ta Oa)) (gQ D (some (.int r0)) (w_0_1_2_23 q cI cJ cD Tn Ta Oa9) (gA q [0, 1, 2, 23])) 1 6 (gA q [0, 1, 2, 23]) := by
  refine g_ofWH (cc := cL_periodByTrying) (maxL := 5) (ret := (some .int)) (hh := [(0, 10, 13, 21)]) (by decide +kernel) rfl ?_
  intro p e s m args below meth c s₁ B hml hv
  obtain ⟨rfl, hP, hE, hXe⟩ := hv
  have hx := B.exec
  have hb := B.bytes
  have hr := B.returns
  have hts := atoms_spec (ws := wsL_periodByTrying) B.pre
  have hown : s.vm.findClass RL = some m.cls := findClass_of_methodNamed B.named
  have hlocks := B.notSynchronized
  have htab : c.exceptionTable.toList = [⟨0, 10, 13, 21⟩] := vx_table (x := yL_periodByTrying) B (hts _ List.mem_cons_self)
  have hS : va_S (gA q [0, 1, 2, 23]) s.heap s.heap [] := va_S.rf
  have hl := lv_entry ([.ref (q 0), .int p1, .int p2, .ref (q 23)]) (n := 5) (Nat.le_of_ble_eq_true rfl)
  rw [lg_entry_eq]
  generalize (lg_sl ([.ref (q 0), .int p1, .int p2, .ref (q 23)]) ++ List.replicate (5 - (lg_sl ([.ref (q 0), .int p1, .int p2, .ref (q 23)])).length) Slot.unset).toArray = ls at hl ⊢
  have hl : lv_has ls 5 [(0, .ref (q 0)), (1, .int p1), (2, .int p2), (3, .ref (q 23))] := hl
  have hDm : ∀ (z0 : Int32) (z1 : (Nat → Int32)) (z2 : (Nat → Int64)), va_D (gA q [0, 1, 2, 23]) (w_0_1_2_23 q cI cJ cD z0 z1 z2) := fun _ _ _ => gD_of hq [0, 1, 2, 23] rfl rfl rfl (fun k h => ⟨k, h, rfl⟩)
  unfold fL_periodByTrying at hf
  refine lv_aload_n hx hb dL_periodByTrying_0 rfl (lv_at hl 3 rfl) ?_
  refine lv_iconst (v := (0 : Int32)) hx hb dL_periodByTrying_1 (by decide) ?_
  refine lv_aload_n hx hb dL_periodByTrying_2 rfl (lv_at hl 0 rfl) ?_
  refine lv_iload_n hx hb dL_periodByTrying_3 rfl (lv_at hl 1 rfl) ?_
  refine lv_iload_n hx hb dL_periodByTrying_4 rfl (lv_at hl 2 rfl) ?_
  rcases bx_some hf with ⟨e5, hc, hf⟩ | ⟨r5, hc, hf⟩
  · try dsimp only at hf
    refine g_callX (ws' := (w_0_1_2_23 q cI cJ cD Tn Ta Oa)) hq [0, 1, 2, 23] [0, 1, 2] [.inl 0, .inl 1, .inl 2, .inr 3] (vx_runV (As := [.int p1, .int p2]) (rest := [.int (0 : Int32), .ref (q 23)]) ⟨hx, hb, hml, hown, hts⟩ (kX8_periodByTryingx l hlt D cI cJ cD sa q hq N Tn Ta p1 p2 e5 hc) (cwV 2 hts gL_periodByTrying_X8_periodByTrying rfl rfl rfl (by decide +kernel) ⟨(Nat.le_of_ble_eq_true rfl), (Nat.le_of_ble_eq_true rfl)⟩) ⟨gPx_blind, va_recv hE.1 hP (ci := 6) (q0 := 0) rfl rfl, fun U hU hW => ⟨rfl, by rw [hU]; exact hP.sub (ws' := (w_0_1_2 q cI cJ cD Tn Ta)) [0, 1, 2] rfl, gEv.warm hW hE, gXe.go hW hS (gMono rfl) hXe hU⟩⟩ rfl rfl hl.1 rfl (lv_room (Nat.le_of_ble_eq_true rfl)) dL_periodByTrying_5 ⟨(Nat.le_of_ble_eq_true rfl), (Nat.le_of_ble_eq_true rfl)⟩) hP hS (gSub rfl) rfl rfl rfl rfl (fun ce q9 H locs hP hS hce hcv hcl => ?_)
    by_cases c_1 : e5 = 0
    · have hf := (if_pos c_1).symm.trans hf
      subst c_1
      refine vx_catch (E := "java/lang/IndexOutOfBoundsException") (name := "java/lang/IndexOutOfBoundsException") hown [] ⟨0, 10, 13, 21⟩ [] htab (fun _ h => nomatch h) rfl (by decide) (hts (.classLink RL 21 "java/lang/IndexOutOfBoundsException") (by decide +kernel)) (va_Nw.use rfl (hXe.1.2.1 "java/lang/IndexOutOfBoundsException" (by decide +kernel))) hce hcv hcl ?_
      refine lv_astore (lv' := [(4, .ref q9), (0, .ref (q 0)), (1, .int p1), (2, .int p2), (3, .ref (q 23))]) hx hb dL_periodByTrying_13 hl (by decide) rfl (fun ls hl => ?_)
      refine lv_iconst (v := (1 : Int32)) hx hb dL_periodByTrying_15 (by decide) ?_
      cases hf
      refine W.widen (k := 1) (n := 6) (Nat.le_of_ble_eq_true rfl) (Nat.le_of_ble_eq_true rfl) ?_
      exact W.iret hx hb hr (fun t ht hW => ⟨⟨rfl, by rw [ht]; exact hP⟩, hS.F ht⟩) hS.2.2 dL_periodByTrying_16
    have hf := (if_neg c_1).symm.trans hf
    exact nomatch hf
  try dsimp only at hf
  refine g_call0 (ws' := (w_0_1_2_23 q cI cJ cD Tn Ta Oa)) (st1 := [.int r5, .int (0 : Int32), .ref (q 23)]) hq [0, 1, 2, 23] [0, 1, 2] [.inl 0, .inl 1, .inl 2, .inr 3] (va_runV (As := [.int p1, .int p2]) (rest := [.int (0 : Int32), .ref (q 23)]) ⟨hx, hb, hml, hown, hts⟩ (kX8_periodByTrying l D cI cJ cD q hq N Tn Ta p1 p2 r5 hc) (cwV 2 hts gL_periodByTrying_X8_periodByTrying rfl rfl rfl (by decide +kernel) ⟨(Nat.le_of_ble_eq_true rfl), (Nat.le_of_ble_eq_true rfl)⟩) ⟨gP_blind, va_recv hE.1 hP (ci := 6) (q0 := 0) rfl rfl, fun U hU hW => ⟨rfl, by rw [hU]; exact hP.sub (ws' := (w_0_1_2 q cI cJ cD Tn Ta)) [0, 1, 2] rfl, gEv.warm hW hE⟩⟩ rfl rfl hl.1 rfl (lv_room (Nat.le_of_ble_eq_true rfl)) dL_periodByTrying_5 ⟨Nat.zero_le _, Nat.zero_le _⟩) hP hS (gSub rfl) rfl rfl rfl rfl rfl (fun H locs hP hS => ?_)
  refine lv_i2l (v := (r5).toInt64) hx hb dL_periodByTrying_8 rfl ?_
  obtain ⟨g_2, hf⟩ := gd_some hf
  refine va_last hx hb hE.1 hP (hDm Tn Ta Oa) hS 3 1 rfl rfl (inb_in g_2) dL_periodByTrying_9 (fun H locs hP _ hS => ?_)
  have hP : va_P D vwCl (w_0_1_2_23 q cI cJ cD Tn Ta (vp_updL Oa ((0 : Int32)).toNatClampNeg ((r5).toInt64))) H := hP
  refine lv_goto (tgt := 17) hx hb dL_periodByTrying_10 (by decide) ?_
  refine lv_iconst (v := (0 : Int32)) hx hb dL_periodByTrying_17 (by decide) ?_
  cases hf
  refine W.widen (k := 1) (n := 6) (Nat.le_of_ble_eq_true rfl) (Nat.le_of_ble_eq_true rfl) ?_
  exact W.iret hx hb hr (fun t ht hW => ⟨⟨rfl, by rw [ht]; exact hP⟩, hS.F ht⟩) hS.2.2 dL_periodByTrying_18
set_option maxHeartbeats 4000000 in
set_option maxRecDepth 100000 in
theorem kL_isPeriod (l : Launch) (hlt : l.stackTraces = false) (D : va_G) (cI cJ cD : ClassId) (sa : Nat → Nat) (q : Nat → Nat) (hq : gInj q) (N : Nat) (Tn : Int32) (Ta : (Nat → Int32)) (Oa : (Nat → Int64)) (p1 : Int32) (p2 : Int32) (p3 : Int32) (r0 : Int32) (Oa9 : (Nat → Int64)) (hf : fL_isPeriod N Tn Ta Oa p1 p2 p3 = some (r0, Oa9)) : Met l yL_isPeriod wsL_isPeriod rL_isPeriodx (gPx D cI cJ cD sa (gA q [0, 1, 2, 23]) [.ref (q 0), .int p1, .int p2, .int p3, .ref (q 23)] (w_0_1_2_23 q cI cJ cD Tn Ta Oa)) (gQ D (some (.int r0)) (w_0_1_2_23 q cI cJ cD Tn Ta Oa9) (gA q [0, 1, 2, 23])) 1 6 (gA q [0, 1, 2, 23]) := by
  refine g_ofWH (cc := cL_isPeriod) (maxL := 6) (ret := (some .int)) (hh := [(0, 19, 22, 21), (0, 19, 26, 13)]) (by decide +kernel) rfl ?_
  intro p e s m args below meth c s₁ B hml hv
  obtain ⟨rfl, hP, hE, hXe⟩ := hv
  have hx := B.exec
  have hb := B.bytes
  have hr := B.returns
  have hts := atoms_spec (ws := wsL_isPeriod) B.pre
  have hown : s.vm.findClass RL = some m.cls := findClass_of_methodNamed B.named
  have hlocks := B.notSynchronized
  have htab : c.exceptionTable.toList = [⟨0, 19, 22, 21⟩, ⟨0, 19, 26, 13⟩] := vx_table (x := yL_isPeriod) B (hts _ List.mem_cons_self)
  have hS : va_S (gA q [0, 1, 2, 23]) s.heap s.heap [] := va_S.rf
  have hl := lv_entry ([.ref (q 0), .int p1, .int p2, .int p3, .ref (q 23)]) (n := 6) (Nat.le_of_ble_eq_true rfl)
  rw [lg_entry_eq]
  generalize (lg_sl ([.ref (q 0), .int p1, .int p2, .int p3, .ref (q 23)]) ++ List.replicate (6 - (lg_sl ([.ref (q 0), .int p1, .int p2, .int p3, .ref (q 23)])).length) Slot.unset).toArray = ls at hl ⊢
  have hl : lv_has ls 6 [(0, .ref (q 0)), (1, .int p1), (2, .int p2), (3, .int p3), (4, .ref (q 23))] := hl
  have hDm : ∀ (z0 : Int32) (z1 : (Nat → Int32)) (z2 : (Nat → Int64)), va_D (gA q [0, 1, 2, 23]) (w_0_1_2_23 q cI cJ cD z0 z1 z2) := fun _ _ _ => gD_of hq [0, 1, 2, 23] rfl rfl rfl (fun k h => ⟨k, h, rfl⟩)
  have J18 : ∀ (Oa : (Nat → Int64)) (y1 : Int32) (y2 : Int64), fL_isPeriod_J18 N Tn Ta Oa y1 y2 = some (r0, Oa9) → ∀ (H : Heap) (locs : List Loc), va_P D vwCl (w_0_1_2_23 q cI cJ cD Tn Ta Oa) H → va_S (gA q [0, 1, 2, 23]) s.heap H locs → ∀ ls : Array Slot, lv_has ls 6 [] → W p l e (headSpec wsL_isPeriod rL_isPeriodx).room s m ([.ref (q 0), .int p1, .int p2, .int p3, .ref (q 23)] : List Value).toArray below meth c H locs 0 0 (MQ below (gQ D (some (.int r0)) (w_0_1_2_23 q cI cJ cD Tn Ta Oa9) (gA q [0, 1, 2, 23])) ([.ref (q 0), .int p1, .int p2, .int p3, .ref (q 23)] : List Value).toArray s 1 6 (gA q [0, 1, 2, 23])) (F0 m 18 ls [.long y2, .int y1, .ref (q 23)]) := by
    intro Oa y1 y2 hf H locs hP hS ls hl
    unfold fL_isPeriod_J18 at hf
    obtain ⟨g_1, hf⟩ := gd_some hf
    refine va_last hx hb hE.1 hP (hDm Tn Ta Oa) hS 3 1 rfl rfl (inb_in g_1) dL_isPeriod_18 (fun H locs hP _ hS => ?_)
    have hP : va_P D vwCl (w_0_1_2_23 q cI cJ cD Tn Ta (vp_updL Oa (y1).toNatClampNeg y2)) H := hP
    refine lv_goto (tgt := 30) hx hb dL_isPeriod_19 (by decide) ?_
    refine lv_iconst (v := (0 : Int32)) hx hb dL_isPeriod_30 (by decide) ?_
    cases hf
    refine W.widen (k := 1) (n := 6) (Nat.le_of_ble_eq_true rfl) (Nat.le_of_ble_eq_true rfl) ?_
    exact W.iret hx hb hr (fun t ht hW => ⟨⟨rfl, by rw [ht]; exact hP⟩, hS.F ht⟩) hS.2.2 dL_isPeriod_31
  unfold fL_isPeriod at hf
  refine lv_aload hx hb dL_isPeriod_0 (lv_at hl 4 rfl) ?_
  refine lv_iconst (v := (0 : Int32)) hx hb dL_isPeriod_2 (by decide) ?_
  refine lv_aload_n hx hb dL_isPeriod_3 rfl (lv_at hl 0 rfl) ?_
  refine lv_iload_n hx hb dL_isPeriod_4 rfl (lv_at hl 1 rfl) ?_
  refine lv_iload_n hx hb dL_isPeriod_5 rfl (lv_at hl 2 rfl) ?_
  refine lv_iload_n hx hb dL_isPeriod_6 rfl (lv_at hl 3 rfl) ?_
  rcases bx_some hf with ⟨e7, hc, hf⟩ | ⟨r7, hc, hf⟩
  · try dsimp only at hf
    refine g_callX (ws' := (w_0_1_2_23 q cI cJ cD Tn Ta Oa)) hq [0, 1, 2, 23] [0, 1, 2] [.inl 0, .inl 1, .inl 2, .inr 3] (vx_runV (As := [.int p1, .int p2, .int p3]) (rest := [.int (0 : Int32), .ref (q 23)]) ⟨hx, hb, hml, hown, hts⟩ (kX8_isPeriodx l hlt D cI cJ cD sa q hq N Tn Ta p1 p2 p3 e7 hc) (cwV 3 hts gL_isPeriod_X8_isPeriod rfl rfl rfl (by decide +kernel) ⟨(Nat.le_of_ble_eq_true rfl), (Nat.le_of_ble_eq_true rfl)⟩) ⟨gPx_blind, va_recv hE.1 hP (ci := 6) (q0 := 0) rfl rfl, fun U hU hW => ⟨rfl, by rw [hU]; exact hP.sub (ws' := (w_0_1_2 q cI cJ cD Tn Ta)) [0, 1, 2] rfl, gEv.warm hW hE, gXe.go hW hS (gMono rfl) hXe hU⟩⟩ rfl rfl hl.1 rfl (lv_room (Nat.le_of_ble_eq_true rfl)) dL_isPeriod_7 ⟨(Nat.le_of_ble_eq_true rfl), (Nat.le_of_ble_eq_true rfl)⟩) hP hS (gSub rfl) rfl rfl rfl rfl (fun ce q9 H locs hP hS hce hcv hcl => ?_)
    by_cases c_2 : e7 = 0
    · have hf := (if_pos c_2).symm.trans hf
      subst c_2
      refine vx_catch (E := "java/lang/IndexOutOfBoundsException") (name := "java/lang/IndexOutOfBoundsException") hown [] ⟨0, 19, 22, 21⟩ [⟨0, 19, 26, 13⟩] htab (fun _ h => nomatch h) rfl (by decide) (hts (.classLink RL 21 "java/lang/IndexOutOfBoundsException") (by decide +kernel)) (va_Nw.use rfl (hXe.1.2.1 "java/lang/IndexOutOfBoundsException" (by decide +kernel))) hce hcv hcl ?_
      refine lv_astore (lv' := [(5, .ref q9), (0, .ref (q 0)), (1, .int p1), (2, .int p2), (3, .int p3), (4, .ref (q 23))]) hx hb dL_isPeriod_22 hl (by decide) rfl (fun ls hl => ?_)
      refine lv_iconst (v := (1 : Int32)) hx hb dL_isPeriod_24 (by decide) ?_
      cases hf
      refine W.widen (k := 1) (n := 6) (Nat.le_of_ble_eq_true rfl) (Nat.le_of_ble_eq_true rfl) ?_
      exact W.iret hx hb hr (fun t ht hW => ⟨⟨rfl, by rw [ht]; exact hP⟩, hS.F ht⟩) hS.2.2 dL_isPeriod_25
    have hf := (if_neg c_2).symm.trans hf
    by_cases c_3 : e7 = 1
    · have hf := (if_pos c_3).symm.trans hf
      subst c_3
      refine vx_catch (E := "java/lang/IllegalArgumentException") (name := "java/lang/IllegalArgumentException") hown [⟨0, 19, 22, 21⟩] ⟨0, 19, 26, 13⟩ [] htab (List.forall_mem_cons.mpr ⟨Or.inr ⟨by decide, "java/lang/IndexOutOfBoundsException", hts (.classLink RL 21 "java/lang/IndexOutOfBoundsException") (by decide +kernel), hXe.1.2.2.1 "java/lang/IllegalArgumentException" (by decide +kernel) "java/lang/IndexOutOfBoundsException" (by decide +kernel) (by decide +kernel)⟩, fun _ h => nomatch h⟩) rfl (by decide) (hts (.classLink RL 13 "java/lang/IllegalArgumentException") (by decide +kernel)) (va_Nw.use rfl (hXe.1.2.1 "java/lang/IllegalArgumentException" (by decide +kernel))) hce hcv hcl ?_
      refine lv_astore (lv' := [(5, .ref q9), (0, .ref (q 0)), (1, .int p1), (2, .int p2), (3, .int p3), (4, .ref (q 23))]) hx hb dL_isPeriod_26 hl (by decide) rfl (fun ls hl => ?_)
      refine lv_iconst (v := (2 : Int32)) hx hb dL_isPeriod_28 (by decide) ?_
      cases hf
      refine W.widen (k := 1) (n := 6) (Nat.le_of_ble_eq_true rfl) (Nat.le_of_ble_eq_true rfl) ?_
      exact W.iret hx hb hr (fun t ht hW => ⟨⟨rfl, by rw [ht]; exact hP⟩, hS.F ht⟩) hS.2.2 dL_isPeriod_29
    have hf := (if_neg c_3).symm.trans hf
    exact nomatch hf
  try dsimp only at hf
  refine g_call0 (ws' := (w_0_1_2_23 q cI cJ cD Tn Ta Oa)) (st1 := [.int r7, .int (0 : Int32), .ref (q 23)]) hq [0, 1, 2, 23] [0, 1, 2] [.inl 0, .inl 1, .inl 2, .inr 3] (va_runV (As := [.int p1, .int p2, .int p3]) (rest := [.int (0 : Int32), .ref (q 23)]) ⟨hx, hb, hml, hown, hts⟩ (kX8_isPeriod l D cI cJ cD q hq N Tn Ta p1 p2 p3 r7 hc) (cwV 3 hts gL_isPeriod_X8_isPeriod rfl rfl rfl (by decide +kernel) ⟨(Nat.le_of_ble_eq_true rfl), (Nat.le_of_ble_eq_true rfl)⟩) ⟨gP_blind, va_recv hE.1 hP (ci := 6) (q0 := 0) rfl rfl, fun U hU hW => ⟨rfl, by rw [hU]; exact hP.sub (ws' := (w_0_1_2 q cI cJ cD Tn Ta)) [0, 1, 2] rfl, gEv.warm hW hE⟩⟩ rfl rfl hl.1 rfl (lv_room (Nat.le_of_ble_eq_true rfl)) dL_isPeriod_7 ⟨Nat.zero_le _, Nat.zero_le _⟩) hP hS (gSub rfl) rfl rfl rfl rfl rfl (fun H locs hP hS => ?_)
  refine lv_if_eq (tgt := 17) hx hb dL_isPeriod_10 (by decide) (fun c_4 => ?_) (fun c_4 => ?_)
  · have hf := (if_pos c_4).symm.trans hf
    refine lv_lconst (v := (0 : Int64)) hx hb dL_isPeriod_17 (by decide) ?_
    exact J18 Oa (0 : Int32) (0 : Int64) hf _ _ hP hS _ (lv_sub hl [] rfl)
  · have hf := (if_neg c_4).symm.trans hf
    refine lv_lconst (v := (1 : Int64)) hx hb dL_isPeriod_13 (by decide) ?_
    refine lv_goto (tgt := 18) hx hb dL_isPeriod_14 (by decide) ?_
    exact J18 Oa (0 : Int32) (1 : Int64) hf _ _ hP hS _ (lv_sub hl [] rfl)
set_option maxHeartbeats 4000000 in
set_option maxRecDepth 100000 in
theorem kL_periods (l : Launch) (hlt : l.stackTraces = false) (D : va_G) (cI cJ cD : ClassId) (sa : Nat → Nat) (q : Nat → Nat) (hq : gInj q) (N : Nat) (Tn : Int32) (Ta : (Nat → Int32)) (Ba : (Nat → Int32)) (Oa : (Nat → Int64)) (p1 : Int32) (p2 : Int32) (r0 : Int32) (Ba9 : (Nat → Int32)) (Oa9 : (Nat → Int64)) (hf : fL_periods N Tn Ta Ba Oa p1 p2 = some (r0, Ba9, Oa9)) : Met l yL_periods wsL_periods rL_periodsx (gPx D cI cJ cD sa (gA q [0, 1, 2, 5, 6, 23]) [.ref (q 0), .int p1, .int p2, .ref (q 23)] (w_0_1_2_5_6_23 q cI cJ cD Tn Ta Ba Oa)) (gQ D (some (.int r0)) (w_0_1_2_5_6_23 q cI cJ cD Tn Ta Ba9 Oa9) (gA q [0, 1, 2, 5, 6, 23])) 1 6 (gA q [0, 1, 2, 5, 6, 23]) := by
  refine g_ofWH (cc := cL_periods) (maxL := 5) (ret := (some .int)) (hh := [(0, 10, 13, 21)]) (by decide +kernel) rfl ?_
  intro p e s m args below meth c s₁ B hml hv
  obtain ⟨rfl, hP, hE, hXe⟩ := hv
  have hx := B.exec
  have hb := B.bytes
  have hr := B.returns
  have hts := atoms_spec (ws := wsL_periods) B.pre
  have hown : s.vm.findClass RL = some m.cls := findClass_of_methodNamed B.named
  have hlocks := B.notSynchronized
  have htab : c.exceptionTable.toList = [⟨0, 10, 13, 21⟩] := vx_table (x := yL_periods) B (hts _ List.mem_cons_self)
  have hS : va_S (gA q [0, 1, 2, 5, 6, 23]) s.heap s.heap [] := va_S.rf
  have hl := lv_entry ([.ref (q 0), .int p1, .int p2, .ref (q 23)]) (n := 5) (Nat.le_of_ble_eq_true rfl)
  rw [lg_entry_eq]
  generalize (lg_sl ([.ref (q 0), .int p1, .int p2, .ref (q 23)]) ++ List.replicate (5 - (lg_sl ([.ref (q 0), .int p1, .int p2, .ref (q 23)])).length) Slot.unset).toArray = ls at hl ⊢
  have hl : lv_has ls 5 [(0, .ref (q 0)), (1, .int p1), (2, .int p2), (3, .ref (q 23))] := hl
  have hDm : ∀ (z0 : Int32) (z1 : (Nat → Int32)) (z2 : (Nat → Int32)) (z3 : (Nat → Int64)), va_D (gA q [0, 1, 2, 5, 6, 23]) (w_0_1_2_5_6_23 q cI cJ cD z0 z1 z2 z3) := fun _ _ _ _ => gD_of hq [0, 1, 2, 5, 6, 23] rfl rfl rfl (fun k h => ⟨k, h, rfl⟩)
  unfold fL_periods at hf
  refine lv_aload_n hx hb dL_periods_0 rfl (lv_at hl 3 rfl) ?_
  refine lv_iconst (v := (0 : Int32)) hx hb dL_periods_1 (by decide) ?_
  refine lv_aload_n hx hb dL_periods_2 rfl (lv_at hl 0 rfl) ?_
  refine lv_iload_n hx hb dL_periods_3 rfl (lv_at hl 1 rfl) ?_
  refine lv_iload_n hx hb dL_periods_4 rfl (lv_at hl 2 rfl) ?_
  rcases bx_some hf with ⟨⟨e5, Ba5⟩, hc, hf⟩ | ⟨⟨r5, Ba5⟩, hc, hf⟩
  · try dsimp only at hf
    refine g_callX (ws' := (w_0_1_2_5_6_23 q cI cJ cD Tn Ta Ba5 Oa)) hq [0, 1, 2, 5, 6, 23] [0, 1, 2, 5, 6] [.inl 0, .inl 1, .inl 2, .inl 3, .inl 4, .inr 5] (vx_runV (As := [.int p1, .int p2]) (rest := [.int (0 : Int32), .ref (q 23)]) ⟨hx, hb, hml, hown, hts⟩ (kX8_periodsx l hlt D cI cJ cD sa q hq N Tn Ta Ba p1 p2 e5 Ba5 hc) (cwV 2 hts gL_periods_X8_periods rfl rfl rfl (by decide +kernel) ⟨(Nat.le_of_ble_eq_true rfl), (Nat.le_of_ble_eq_true rfl)⟩) ⟨gPx_blind, va_recv hE.1 hP (ci := 6) (q0 := 0) rfl rfl, fun U hU hW => ⟨rfl, by rw [hU]; exact hP.sub (ws' := (w_0_1_2_5_6 q cI cJ cD Tn Ta Ba)) [0, 1, 2, 3, 4] rfl, gEv.warm hW hE, gXe.go hW hS (gMono rfl) hXe hU⟩⟩ rfl rfl hl.1 rfl (lv_room (Nat.le_of_ble_eq_true rfl)) dL_periods_5 ⟨(Nat.le_of_ble_eq_true rfl), (Nat.le_of_ble_eq_true rfl)⟩) hP hS (gSub rfl) rfl rfl rfl rfl (fun ce q9 H locs hP hS hce hcv hcl => ?_)
    by_cases c_1 : e5 = 0
    · have hf := (if_pos c_1).symm.trans hf
      subst c_1
      refine vx_catch (E := "java/lang/IndexOutOfBoundsException") (name := "java/lang/IndexOutOfBoundsException") hown [] ⟨0, 10, 13, 21⟩ [] htab (fun _ h => nomatch h) rfl (by decide) (hts (.classLink RL 21 "java/lang/IndexOutOfBoundsException") (by decide +kernel)) (va_Nw.use rfl (hXe.1.2.1 "java/lang/IndexOutOfBoundsException" (by decide +kernel))) hce hcv hcl ?_
      refine lv_astore (lv' := [(4, .ref q9), (0, .ref (q 0)), (1, .int p1), (2, .int p2), (3, .ref (q 23))]) hx hb dL_periods_13 hl (by decide) rfl (fun ls hl => ?_)
      refine lv_iconst (v := (1 : Int32)) hx hb dL_periods_15 (by decide) ?_
      cases hf
      refine W.widen (k := 1) (n := 6) (Nat.le_of_ble_eq_true rfl) (Nat.le_of_ble_eq_true rfl) ?_
      exact W.iret hx hb hr (fun t ht hW => ⟨⟨rfl, by rw [ht]; exact hP⟩, hS.F ht⟩) hS.2.2 dL_periods_16
    have hf := (if_neg c_1).symm.trans hf
    exact nomatch hf
  try dsimp only at hf
  refine g_call0 (ws' := (w_0_1_2_5_6_23 q cI cJ cD Tn Ta Ba5 Oa)) (st1 := [.int r5, .int (0 : Int32), .ref (q 23)]) hq [0, 1, 2, 5, 6, 23] [0, 1, 2, 5, 6] [.inl 0, .inl 1, .inl 2, .inl 3, .inl 4, .inr 5] (va_runV (As := [.int p1, .int p2]) (rest := [.int (0 : Int32), .ref (q 23)]) ⟨hx, hb, hml, hown, hts⟩ (kX8_periods l D cI cJ cD q hq N Tn Ta Ba p1 p2 r5 Ba5 hc) (cwV 2 hts gL_periods_X8_periods rfl rfl rfl (by decide +kernel) ⟨(Nat.le_of_ble_eq_true rfl), (Nat.le_of_ble_eq_true rfl)⟩) ⟨gP_blind, va_recv hE.1 hP (ci := 6) (q0 := 0) rfl rfl, fun U hU hW => ⟨rfl, by rw [hU]; exact hP.sub (ws' := (w_0_1_2_5_6 q cI cJ cD Tn Ta Ba)) [0, 1, 2, 3, 4] rfl, gEv.warm hW hE⟩⟩ rfl rfl hl.1 rfl (lv_room (Nat.le_of_ble_eq_true rfl)) dL_periods_5 ⟨Nat.zero_le _, Nat.zero_le _⟩) hP hS (gSub rfl) rfl rfl rfl rfl rfl (fun H locs hP hS => ?_)
  refine lv_i2l (v := (r5).toInt64) hx hb dL_periods_8 rfl ?_
  obtain ⟨g_2, hf⟩ := gd_some hf
  refine va_last hx hb hE.1 hP (hDm Tn Ta Ba5 Oa) hS 5 1 rfl rfl (inb_in g_2) dL_periods_9 (fun H locs hP _ hS => ?_)
  have hP : va_P D vwCl (w_0_1_2_5_6_23 q cI cJ cD Tn Ta Ba5 (vp_updL Oa ((0 : Int32)).toNatClampNeg ((r5).toInt64))) H := hP
  refine lv_goto (tgt := 17) hx hb dL_periods_10 (by decide) ?_
  refine lv_iconst (v := (0 : Int32)) hx hb dL_periods_17 (by decide) ?_
  cases hf
  refine W.widen (k := 1) (n := 6) (Nat.le_of_ble_eq_true rfl) (Nat.le_of_ble_eq_true rfl) ?_
  exact W.iret hx hb hr (fun t ht hW => ⟨⟨rfl, by rw [ht]; exact hP⟩, hS.F ht⟩) hS.2.2 dL_periods_18
set_option maxHeartbeats 4000000 in
set_option maxRecDepth 100000 in
theorem kL_border (l : Launch) (hlt : l.stackTraces = false) (D : va_G) (cI cJ cD : ClassId) (sa : Nat → Nat) (q : Nat → Nat) (hq : gInj q) (N : Nat) (Tn : Int32) (Ta : (Nat → Int32)) (Ba : (Nat → Int32)) (Oa : (Nat → Int64)) (p1 : Int32) (p2 : Int32) (r0 : Int32) (Ba9 : (Nat → Int32)) (Oa9 : (Nat → Int64)) (hf : fL_border N Tn Ta Ba Oa p1 p2 = some (r0, Ba9, Oa9)) : Met l yL_border wsL_border rL_borderx (gPx D cI cJ cD sa (gA q [0, 1, 2, 5, 6, 23]) [.ref (q 0), .int p1, .int p2, .ref (q 23)] (w_0_1_2_5_6_23 q cI cJ cD Tn Ta Ba Oa)) (gQ D (some (.int r0)) (w_0_1_2_5_6_23 q cI cJ cD Tn Ta Ba9 Oa9) (gA q [0, 1, 2, 5, 6, 23])) 1 6 (gA q [0, 1, 2, 5, 6, 23]) := by
  refine g_ofWH (cc := cL_border) (maxL := 5) (ret := (some .int)) (hh := [(0, 10, 13, 21)]) (by decide +kernel) rfl ?_
  intro p e s m args below meth c s₁ B hml hv
  obtain ⟨rfl, hP, hE, hXe⟩ := hv
  have hx := B.exec
  have hb := B.bytes
  have hr := B.returns
  have hts := atoms_spec (ws := wsL_border) B.pre
  have hown : s.vm.findClass RL = some m.cls := findClass_of_methodNamed B.named
  have hlocks := B.notSynchronized
  have htab : c.exceptionTable.toList = [⟨0, 10, 13, 21⟩] := vx_table (x := yL_border) B (hts _ List.mem_cons_self)
  have hS : va_S (gA q [0, 1, 2, 5, 6, 23]) s.heap s.heap [] := va_S.rf
  have hl := lv_entry ([.ref (q 0), .int p1, .int p2, .ref (q 23)]) (n := 5) (Nat.le_of_ble_eq_true rfl)
  rw [lg_entry_eq]
  generalize (lg_sl ([.ref (q 0), .int p1, .int p2, .ref (q 23)]) ++ List.replicate (5 - (lg_sl ([.ref (q 0), .int p1, .int p2, .ref (q 23)])).length) Slot.unset).toArray = ls at hl ⊢
  have hl : lv_has ls 5 [(0, .ref (q 0)), (1, .int p1), (2, .int p2), (3, .ref (q 23))] := hl
  have hDm : ∀ (z0 : Int32) (z1 : (Nat → Int32)) (z2 : (Nat → Int32)) (z3 : (Nat → Int64)), va_D (gA q [0, 1, 2, 5, 6, 23]) (w_0_1_2_5_6_23 q cI cJ cD z0 z1 z2 z3) := fun _ _ _ _ => gD_of hq [0, 1, 2, 5, 6, 23] rfl rfl rfl (fun k h => ⟨k, h, rfl⟩)
  unfold fL_border at hf
  refine lv_aload_n hx hb dL_border_0 rfl (lv_at hl 3 rfl) ?_
  refine lv_iconst (v := (0 : Int32)) hx hb dL_border_1 (by decide) ?_
  refine lv_aload_n hx hb dL_border_2 rfl (lv_at hl 0 rfl) ?_
  refine lv_iload_n hx hb dL_border_3 rfl (lv_at hl 1 rfl) ?_
  refine lv_iload_n hx hb dL_border_4 rfl (lv_at hl 2 rfl) ?_
  rcases bx_some hf with ⟨⟨e5, Ba5⟩, hc, hf⟩ | ⟨⟨r5, Ba5⟩, hc, hf⟩
  · try dsimp only at hf
    refine g_callX (ws' := (w_0_1_2_5_6_23 q cI cJ cD Tn Ta Ba5 Oa)) hq [0, 1, 2, 5, 6, 23] [0, 1, 2, 5, 6] [.inl 0, .inl 1, .inl 2, .inl 3, .inl 4, .inr 5] (vx_runV (As := [.int p1, .int p2]) (rest := [.int (0 : Int32), .ref (q 23)]) ⟨hx, hb, hml, hown, hts⟩ (kX8_borderx l hlt D cI cJ cD sa q hq N Tn Ta Ba p1 p2 e5 Ba5 hc) (cwV 2 hts gL_border_X8_border rfl rfl rfl (by decide +kernel) ⟨(Nat.le_of_ble_eq_true rfl), (Nat.le_of_ble_eq_true rfl)⟩) ⟨gPx_blind, va_recv hE.1 hP (ci := 6) (q0 := 0) rfl rfl, fun U hU hW => ⟨rfl, by rw [hU]; exact hP.sub (ws' := (w_0_1_2_5_6 q cI cJ cD Tn Ta Ba)) [0, 1, 2, 3, 4] rfl, gEv.warm hW hE, gXe.go hW hS (gMono rfl) hXe hU⟩⟩ rfl rfl hl.1 rfl (lv_room (Nat.le_of_ble_eq_true rfl)) dL_border_5 ⟨(Nat.le_of_ble_eq_true rfl), (Nat.le_of_ble_eq_true rfl)⟩) hP hS (gSub rfl) rfl rfl rfl rfl (fun ce q9 H locs hP hS hce hcv hcl => ?_)
    by_cases c_1 : e5 = 0
    · have hf := (if_pos c_1).symm.trans hf
      subst c_1
      refine vx_catch (E := "java/lang/IndexOutOfBoundsException") (name := "java/lang/IndexOutOfBoundsException") hown [] ⟨0, 10, 13, 21⟩ [] htab (fun _ h => nomatch h) rfl (by decide) (hts (.classLink RL 21 "java/lang/IndexOutOfBoundsException") (by decide +kernel)) (va_Nw.use rfl (hXe.1.2.1 "java/lang/IndexOutOfBoundsException" (by decide +kernel))) hce hcv hcl ?_
      refine lv_astore (lv' := [(4, .ref q9), (0, .ref (q 0)), (1, .int p1), (2, .int p2), (3, .ref (q 23))]) hx hb dL_border_13 hl (by decide) rfl (fun ls hl => ?_)
      refine lv_iconst (v := (1 : Int32)) hx hb dL_border_15 (by decide) ?_
      cases hf
      refine W.widen (k := 1) (n := 6) (Nat.le_of_ble_eq_true rfl) (Nat.le_of_ble_eq_true rfl) ?_
      exact W.iret hx hb hr (fun t ht hW => ⟨⟨rfl, by rw [ht]; exact hP⟩, hS.F ht⟩) hS.2.2 dL_border_16
    have hf := (if_neg c_1).symm.trans hf
    exact nomatch hf
  try dsimp only at hf
  refine g_call0 (ws' := (w_0_1_2_5_6_23 q cI cJ cD Tn Ta Ba5 Oa)) (st1 := [.int r5, .int (0 : Int32), .ref (q 23)]) hq [0, 1, 2, 5, 6, 23] [0, 1, 2, 5, 6] [.inl 0, .inl 1, .inl 2, .inl 3, .inl 4, .inr 5] (va_runV (As := [.int p1, .int p2]) (rest := [.int (0 : Int32), .ref (q 23)]) ⟨hx, hb, hml, hown, hts⟩ (kX8_border l D cI cJ cD q hq N Tn Ta Ba p1 p2 r5 Ba5 hc) (cwV 2 hts gL_border_X8_border rfl rfl rfl (by decide +kernel) ⟨(Nat.le_of_ble_eq_true rfl), (Nat.le_of_ble_eq_true rfl)⟩) ⟨gP_blind, va_recv hE.1 hP (ci := 6) (q0 := 0) rfl rfl, fun U hU hW => ⟨rfl, by rw [hU]; exact hP.sub (ws' := (w_0_1_2_5_6 q cI cJ cD Tn Ta Ba)) [0, 1, 2, 3, 4] rfl, gEv.warm hW hE⟩⟩ rfl rfl hl.1 rfl (lv_room (Nat.le_of_ble_eq_true rfl)) dL_border_5 ⟨Nat.zero_le _, Nat.zero_le _⟩) hP hS (gSub rfl) rfl rfl rfl rfl rfl (fun H locs hP hS => ?_)
  refine lv_i2l (v := (r5).toInt64) hx hb dL_border_8 rfl ?_
  obtain ⟨g_2, hf⟩ := gd_some hf
  refine va_last hx hb hE.1 hP (hDm Tn Ta Ba5 Oa) hS 5 1 rfl rfl (inb_in g_2) dL_border_9 (fun H locs hP _ hS => ?_)
  have hP : va_P D vwCl (w_0_1_2_5_6_23 q cI cJ cD Tn Ta Ba5 (vp_updL Oa ((0 : Int32)).toNatClampNeg ((r5).toInt64))) H := hP
  refine lv_goto (tgt := 17) hx hb dL_border_10 (by decide) ?_
  refine lv_iconst (v := (0 : Int32)) hx hb dL_border_17 (by decide) ?_
  cases hf
  refine W.widen (k := 1) (n := 6) (Nat.le_of_ble_eq_true rfl) (Nat.le_of_ble_eq_true rfl) ?_
  exact W.iret hx hb hr (fun t ht hW => ⟨⟨rfl, by rw [ht]; exact hP⟩, hS.F ht⟩) hS.2.2 dL_border_18
set_option maxHeartbeats 4000000 in
set_option maxRecDepth 100000 in
theorem kL_rootLength (l : Launch) (hlt : l.stackTraces = false) (D : va_G) (cI cJ cD : ClassId) (sa : Nat → Nat) (q : Nat → Nat) (hq : gInj q) (N : Nat) (Tn : Int32) (Ta : (Nat → Int32)) (Ba : (Nat → Int32)) (Oa : (Nat → Int64)) (p1 : Int32) (p2 : Int32) (r0 : Int32) (Ba9 : (Nat → Int32)) (Oa9 : (Nat → Int64)) (hf : fL_rootLength N Tn Ta Ba Oa p1 p2 = some (r0, Ba9, Oa9)) : Met l yL_rootLength wsL_rootLength rL_rootLengthx (gPx D cI cJ cD sa (gA q [0, 1, 2, 5, 6, 23]) [.ref (q 0), .int p1, .int p2, .ref (q 23)] (w_0_1_2_5_6_23 q cI cJ cD Tn Ta Ba Oa)) (gQ D (some (.int r0)) (w_0_1_2_5_6_23 q cI cJ cD Tn Ta Ba9 Oa9) (gA q [0, 1, 2, 5, 6, 23])) 1 6 (gA q [0, 1, 2, 5, 6, 23]) := by
  refine g_ofWH (cc := cL_rootLength) (maxL := 5) (ret := (some .int)) (hh := [(0, 10, 13, 21)]) (by decide +kernel) rfl ?_
  intro p e s m args below meth c s₁ B hml hv
  obtain ⟨rfl, hP, hE, hXe⟩ := hv
  have hx := B.exec
  have hb := B.bytes
  have hr := B.returns
  have hts := atoms_spec (ws := wsL_rootLength) B.pre
  have hown : s.vm.findClass RL = some m.cls := findClass_of_methodNamed B.named
  have hlocks := B.notSynchronized
  have htab : c.exceptionTable.toList = [⟨0, 10, 13, 21⟩] := vx_table (x := yL_rootLength) B (hts _ List.mem_cons_self)
  have hS : va_S (gA q [0, 1, 2, 5, 6, 23]) s.heap s.heap [] := va_S.rf
  have hl := lv_entry ([.ref (q 0), .int p1, .int p2, .ref (q 23)]) (n := 5) (Nat.le_of_ble_eq_true rfl)
  rw [lg_entry_eq]
  generalize (lg_sl ([.ref (q 0), .int p1, .int p2, .ref (q 23)]) ++ List.replicate (5 - (lg_sl ([.ref (q 0), .int p1, .int p2, .ref (q 23)])).length) Slot.unset).toArray = ls at hl ⊢
  have hl : lv_has ls 5 [(0, .ref (q 0)), (1, .int p1), (2, .int p2), (3, .ref (q 23))] := hl
  have hDm : ∀ (z0 : Int32) (z1 : (Nat → Int32)) (z2 : (Nat → Int32)) (z3 : (Nat → Int64)), va_D (gA q [0, 1, 2, 5, 6, 23]) (w_0_1_2_5_6_23 q cI cJ cD z0 z1 z2 z3) := fun _ _ _ _ => gD_of hq [0, 1, 2, 5, 6, 23] rfl rfl rfl (fun k h => ⟨k, h, rfl⟩)
  unfold fL_rootLength at hf
  refine lv_aload_n hx hb dL_rootLength_0 rfl (lv_at hl 3 rfl) ?_
  refine lv_iconst (v := (0 : Int32)) hx hb dL_rootLength_1 (by decide) ?_
  refine lv_aload_n hx hb dL_rootLength_2 rfl (lv_at hl 0 rfl) ?_
  refine lv_iload_n hx hb dL_rootLength_3 rfl (lv_at hl 1 rfl) ?_
  refine lv_iload_n hx hb dL_rootLength_4 rfl (lv_at hl 2 rfl) ?_
  rcases bx_some hf with ⟨⟨e5, Ba5⟩, hc, hf⟩ | ⟨⟨r5, Ba5⟩, hc, hf⟩
  · try dsimp only at hf
    refine g_callX (ws' := (w_0_1_2_5_6_23 q cI cJ cD Tn Ta Ba5 Oa)) hq [0, 1, 2, 5, 6, 23] [0, 1, 2, 5, 6] [.inl 0, .inl 1, .inl 2, .inl 3, .inl 4, .inr 5] (vx_runV (As := [.int p1, .int p2]) (rest := [.int (0 : Int32), .ref (q 23)]) ⟨hx, hb, hml, hown, hts⟩ (kX8_rootLengthx l hlt D cI cJ cD sa q hq N Tn Ta Ba p1 p2 e5 Ba5 hc) (cwV 2 hts gL_rootLength_X8_rootLength rfl rfl rfl (by decide +kernel) ⟨(Nat.le_of_ble_eq_true rfl), (Nat.le_of_ble_eq_true rfl)⟩) ⟨gPx_blind, va_recv hE.1 hP (ci := 6) (q0 := 0) rfl rfl, fun U hU hW => ⟨rfl, by rw [hU]; exact hP.sub (ws' := (w_0_1_2_5_6 q cI cJ cD Tn Ta Ba)) [0, 1, 2, 3, 4] rfl, gEv.warm hW hE, gXe.go hW hS (gMono rfl) hXe hU⟩⟩ rfl rfl hl.1 rfl (lv_room (Nat.le_of_ble_eq_true rfl)) dL_rootLength_5 ⟨(Nat.le_of_ble_eq_true rfl), (Nat.le_of_ble_eq_true rfl)⟩) hP hS (gSub rfl) rfl rfl rfl rfl (fun ce q9 H locs hP hS hce hcv hcl => ?_)
    by_cases c_1 : e5 = 0
    · have hf := (if_pos c_1).symm.trans hf
      subst c_1
      refine vx_catch (E := "java/lang/IndexOutOfBoundsException") (name := "java/lang/IndexOutOfBoundsException") hown [] ⟨0, 10, 13, 21⟩ [] htab (fun _ h => nomatch h) rfl (by decide) (hts (.classLink RL 21 "java/lang/IndexOutOfBoundsException") (by decide +kernel)) (va_Nw.use rfl (hXe.1.2.1 "java/lang/IndexOutOfBoundsException" (by decide +kernel))) hce hcv hcl ?_
      refine lv_astore (lv' := [(4, .ref q9), (0, .ref (q 0)), (1, .int p1), (2, .int p2), (3, .ref (q 23))]) hx hb dL_rootLength_13 hl (by decide) rfl (fun ls hl => ?_)
      refine lv_iconst (v := (1 : Int32)) hx hb dL_rootLength_15 (by decide) ?_
      cases hf
      refine W.widen (k := 1) (n := 6) (Nat.le_of_ble_eq_true rfl) (Nat.le_of_ble_eq_true rfl) ?_
      exact W.iret hx hb hr (fun t ht hW => ⟨⟨rfl, by rw [ht]; exact hP⟩, hS.F ht⟩) hS.2.2 dL_rootLength_16
    have hf := (if_neg c_1).symm.trans hf
    exact nomatch hf
  try dsimp only at hf
  refine g_call0 (ws' := (w_0_1_2_5_6_23 q cI cJ cD Tn Ta Ba5 Oa)) (st1 := [.int r5, .int (0 : Int32), .ref (q 23)]) hq [0, 1, 2, 5, 6, 23] [0, 1, 2, 5, 6] [.inl 0, .inl 1, .inl 2, .inl 3, .inl 4, .inr 5] (va_runV (As := [.int p1, .int p2]) (rest := [.int (0 : Int32), .ref (q 23)]) ⟨hx, hb, hml, hown, hts⟩ (kX8_rootLength l D cI cJ cD q hq N Tn Ta Ba p1 p2 r5 Ba5 hc) (cwV 2 hts gL_rootLength_X8_rootLength rfl rfl rfl (by decide +kernel) ⟨(Nat.le_of_ble_eq_true rfl), (Nat.le_of_ble_eq_true rfl)⟩) ⟨gP_blind, va_recv hE.1 hP (ci := 6) (q0 := 0) rfl rfl, fun U hU hW => ⟨rfl, by rw [hU]; exact hP.sub (ws' := (w_0_1_2_5_6 q cI cJ cD Tn Ta Ba)) [0, 1, 2, 3, 4] rfl, gEv.warm hW hE⟩⟩ rfl rfl hl.1 rfl (lv_room (Nat.le_of_ble_eq_true rfl)) dL_rootLength_5 ⟨Nat.zero_le _, Nat.zero_le _⟩) hP hS (gSub rfl) rfl rfl rfl rfl rfl (fun H locs hP hS => ?_)
  refine lv_i2l (v := (r5).toInt64) hx hb dL_rootLength_8 rfl ?_
  obtain ⟨g_2, hf⟩ := gd_some hf
  refine va_last hx hb hE.1 hP (hDm Tn Ta Ba5 Oa) hS 5 1 rfl rfl (inb_in g_2) dL_rootLength_9 (fun H locs hP _ hS => ?_)
  have hP : va_P D vwCl (w_0_1_2_5_6_23 q cI cJ cD Tn Ta Ba5 (vp_updL Oa ((0 : Int32)).toNatClampNeg ((r5).toInt64))) H := hP
  refine lv_goto (tgt := 17) hx hb dL_rootLength_10 (by decide) ?_
  refine lv_iconst (v := (0 : Int32)) hx hb dL_rootLength_17 (by decide) ?_
  cases hf
  refine W.widen (k := 1) (n := 6) (Nat.le_of_ble_eq_true rfl) (Nat.le_of_ble_eq_true rfl) ?_
  exact W.iret hx hb hr (fun t ht hW => ⟨⟨rfl, by rw [ht]; exact hP⟩, hS.F ht⟩) hS.2.2 dL_rootLength_18
set_option maxHeartbeats 4000000 in
set_option maxRecDepth 100000 in
theorem kL_exponent (l : Launch) (hlt : l.stackTraces = false) (D : va_G) (cI cJ cD : ClassId) (sa : Nat → Nat) (q : Nat → Nat) (hq : gInj q) (N : Nat) (Tn : Int32) (Ta : (Nat → Int32)) (Ba : (Nat → Int32)) (Od : (Nat → UInt64)) (p1 : Int32) (p2 : Int32) (r0 : Int32) (Ba9 : (Nat → Int32)) (Od9 : (Nat → UInt64)) (hf : fL_exponent N Tn Ta Ba Od p1 p2 = some (r0, Ba9, Od9)) : Met l yL_exponent wsL_exponent rL_exponentx (gPx D cI cJ cD sa (gA q [0, 1, 2, 5, 6, 24]) [.ref (q 0), .int p1, .int p2, .ref (q 24)] (w_0_1_2_5_6_24 q cI cJ cD Tn Ta Ba Od)) (gQ D (some (.int r0)) (w_0_1_2_5_6_24 q cI cJ cD Tn Ta Ba9 Od9) (gA q [0, 1, 2, 5, 6, 24])) 1 6 (gA q [0, 1, 2, 5, 6, 24]) := by
  refine g_ofWH (cc := cL_exponent) (maxL := 5) (ret := (some .int)) (hh := [(0, 9, 12, 21)]) (by decide +kernel) rfl ?_
  intro p e s m args below meth c s₁ B hml hv
  obtain ⟨rfl, hP, hE, hXe⟩ := hv
  have hx := B.exec
  have hb := B.bytes
  have hr := B.returns
  have hts := atoms_spec (ws := wsL_exponent) B.pre
  have hown : s.vm.findClass RL = some m.cls := findClass_of_methodNamed B.named
  have hlocks := B.notSynchronized
  have htab : c.exceptionTable.toList = [⟨0, 9, 12, 21⟩] := vx_table (x := yL_exponent) B (hts _ List.mem_cons_self)
  have hS : va_S (gA q [0, 1, 2, 5, 6, 24]) s.heap s.heap [] := va_S.rf
  have hl := lv_entry ([.ref (q 0), .int p1, .int p2, .ref (q 24)]) (n := 5) (Nat.le_of_ble_eq_true rfl)
  rw [lg_entry_eq]
  generalize (lg_sl ([.ref (q 0), .int p1, .int p2, .ref (q 24)]) ++ List.replicate (5 - (lg_sl ([.ref (q 0), .int p1, .int p2, .ref (q 24)])).length) Slot.unset).toArray = ls at hl ⊢
  have hl : lv_has ls 5 [(0, .ref (q 0)), (1, .int p1), (2, .int p2), (3, .ref (q 24))] := hl
  have hDm : ∀ (z0 : Int32) (z1 : (Nat → Int32)) (z2 : (Nat → Int32)) (z3 : (Nat → UInt64)), va_D (gA q [0, 1, 2, 5, 6, 24]) (w_0_1_2_5_6_24 q cI cJ cD z0 z1 z2 z3) := fun _ _ _ _ => gD_of hq [0, 1, 2, 5, 6, 24] rfl rfl rfl (fun k h => ⟨k, h, rfl⟩)
  unfold fL_exponent at hf
  refine lv_aload_n hx hb dL_exponent_0 rfl (lv_at hl 3 rfl) ?_
  refine lv_iconst (v := (0 : Int32)) hx hb dL_exponent_1 (by decide) ?_
  refine lv_aload_n hx hb dL_exponent_2 rfl (lv_at hl 0 rfl) ?_
  refine lv_iload_n hx hb dL_exponent_3 rfl (lv_at hl 1 rfl) ?_
  refine lv_iload_n hx hb dL_exponent_4 rfl (lv_at hl 2 rfl) ?_
  rcases bx_some hf with ⟨⟨e5, Ba5⟩, hc, hf⟩ | ⟨⟨r5, Ba5⟩, hc, hf⟩
  · try dsimp only at hf
    refine g_callX (ws' := (w_0_1_2_5_6_24 q cI cJ cD Tn Ta Ba5 Od)) hq [0, 1, 2, 5, 6, 24] [0, 1, 2, 5, 6] [.inl 0, .inl 1, .inl 2, .inl 3, .inl 4, .inr 5] (vx_runV (As := [.int p1, .int p2]) (rest := [.int (0 : Int32), .ref (q 24)]) ⟨hx, hb, hml, hown, hts⟩ (kX8_exponentx l hlt D cI cJ cD sa q hq N Tn Ta Ba p1 p2 e5 Ba5 hc) (cwV 2 hts gL_exponent_X8_exponent rfl rfl rfl (by decide +kernel) ⟨(Nat.le_of_ble_eq_true rfl), (Nat.le_of_ble_eq_true rfl)⟩) ⟨gPx_blind, va_recv hE.1 hP (ci := 6) (q0 := 0) rfl rfl, fun U hU hW => ⟨rfl, by rw [hU]; exact hP.sub (ws' := (w_0_1_2_5_6 q cI cJ cD Tn Ta Ba)) [0, 1, 2, 3, 4] rfl, gEv.warm hW hE, gXe.go hW hS (gMono rfl) hXe hU⟩⟩ rfl rfl hl.1 rfl (lv_room (Nat.le_of_ble_eq_true rfl)) dL_exponent_5 ⟨(Nat.le_of_ble_eq_true rfl), (Nat.le_of_ble_eq_true rfl)⟩) hP hS (gSub rfl) rfl rfl rfl rfl (fun ce q9 H locs hP hS hce hcv hcl => ?_)
    by_cases c_1 : e5 = 0
    · have hf := (if_pos c_1).symm.trans hf
      subst c_1
      refine vx_catch (E := "java/lang/IndexOutOfBoundsException") (name := "java/lang/IndexOutOfBoundsException") hown [] ⟨0, 9, 12, 21⟩ [] htab (fun _ h => nomatch h) rfl (by decide) (hts (.classLink RL 21 "java/lang/IndexOutOfBoundsException") (by decide +kernel)) (va_Nw.use rfl (hXe.1.2.1 "java/lang/IndexOutOfBoundsException" (by decide +kernel))) hce hcv hcl ?_
      refine lv_astore (lv' := [(4, .ref q9), (0, .ref (q 0)), (1, .int p1), (2, .int p2), (3, .ref (q 24))]) hx hb dL_exponent_12 hl (by decide) rfl (fun ls hl => ?_)
      refine lv_iconst (v := (1 : Int32)) hx hb dL_exponent_14 (by decide) ?_
      cases hf
      refine W.widen (k := 1) (n := 6) (Nat.le_of_ble_eq_true rfl) (Nat.le_of_ble_eq_true rfl) ?_
      exact W.iret hx hb hr (fun t ht hW => ⟨⟨rfl, by rw [ht]; exact hP⟩, hS.F ht⟩) hS.2.2 dL_exponent_15
    have hf := (if_neg c_1).symm.trans hf
    exact nomatch hf
  try dsimp only at hf
  refine g_call0 (ws' := (w_0_1_2_5_6_24 q cI cJ cD Tn Ta Ba5 Od)) (st1 := [.double r5, .int (0 : Int32), .ref (q 24)]) hq [0, 1, 2, 5, 6, 24] [0, 1, 2, 5, 6] [.inl 0, .inl 1, .inl 2, .inl 3, .inl 4, .inr 5] (va_runV (As := [.int p1, .int p2]) (rest := [.int (0 : Int32), .ref (q 24)]) ⟨hx, hb, hml, hown, hts⟩ (kX8_exponent l D cI cJ cD q hq N Tn Ta Ba p1 p2 r5 Ba5 hc) (cwV 2 hts gL_exponent_X8_exponent rfl rfl rfl (by decide +kernel) ⟨(Nat.le_of_ble_eq_true rfl), (Nat.le_of_ble_eq_true rfl)⟩) ⟨gP_blind, va_recv hE.1 hP (ci := 6) (q0 := 0) rfl rfl, fun U hU hW => ⟨rfl, by rw [hU]; exact hP.sub (ws' := (w_0_1_2_5_6 q cI cJ cD Tn Ta Ba)) [0, 1, 2, 3, 4] rfl, gEv.warm hW hE⟩⟩ rfl rfl hl.1 rfl (lv_room (Nat.le_of_ble_eq_true rfl)) dL_exponent_5 ⟨Nat.zero_le _, Nat.zero_le _⟩) hP hS (gSub rfl) rfl rfl rfl rfl rfl (fun H locs hP hS => ?_)
  obtain ⟨g_2, hf⟩ := gd_some hf
  refine va_dast hx hb hE.1 hP (hDm Tn Ta Ba5 Od) hS 5 2 rfl rfl (inb_in g_2) dL_exponent_8 (fun H locs hP _ hS => ?_)
  have hP : va_P D vwCl (w_0_1_2_5_6_24 q cI cJ cD Tn Ta Ba5 (vf_upd Od ((0 : Int32)).toNatClampNeg r5)) H := hP
  refine lv_goto (tgt := 16) hx hb dL_exponent_9 (by decide) ?_
  refine lv_iconst (v := (0 : Int32)) hx hb dL_exponent_16 (by decide) ?_
  cases hf
  refine W.widen (k := 1) (n := 6) (Nat.le_of_ble_eq_true rfl) (Nat.le_of_ble_eq_true rfl) ?_
  exact W.iret hx hb hr (fun t ht hW => ⟨⟨rfl, by rw [ht]; exact hP⟩, hS.F ht⟩) hS.2.2 dL_exponent_17
set_option maxHeartbeats 4000000 in
set_option maxRecDepth 100000 in
theorem kL_runStart (l : Launch) (hlt : l.stackTraces = false) (D : va_G) (cI cJ cD : ClassId) (sa : Nat → Nat) (q : Nat → Nat) (hq : gInj q) (N : Nat) (Tn : Int32) (Ta : (Nat → Int32)) (Rn : Int32) (Ra : (Nat → Int32)) (Rb : (Nat → Int32)) (Rd : (Nat → Int32)) (Oa : (Nat → Int64)) (p1 : Int32) (r0 : Int32) (Rn9 : Int32) (Ra9 : (Nat → Int32)) (Rb9 : (Nat → Int32)) (Rd9 : (Nat → Int32)) (Oa9 : (Nat → Int64)) (hf : fL_runStart N Tn Ta Rn Ra Rb Rd Oa p1 = some (r0, Rn9, Ra9, Rb9, Rd9, Oa9)) : Met l yL_runStart wsL_runStart rL_runStartx (gPx D cI cJ cD sa (gA q [0, 1, 2, 7, 8, 9, 10, 23]) [.ref (q 0), .int p1, .ref (q 23)] (w_0_1_2_7_8_9_10_23 q cI cJ cD Tn Ta Rn Ra Rb Rd Oa)) (gQ D (some (.int r0)) (w_0_1_2_7_8_9_10_23 q cI cJ cD Tn Ta Rn9 Ra9 Rb9 Rd9 Oa9) (gA q [0, 1, 2, 7, 8, 9, 10, 23])) 1 6 (gA q [0, 1, 2, 7, 8, 9, 10, 23]) := by
  refine g_ofWH (cc := cL_runStart) (maxL := 4) (ret := (some .int)) (hh := [(0, 9, 12, 21)]) (by decide +kernel) rfl ?_
  intro p e s m args below meth c s₁ B hml hv
  obtain ⟨rfl, hP, hE, hXe⟩ := hv
  have hx := B.exec
  have hb := B.bytes
  have hr := B.returns
  have hts := atoms_spec (ws := wsL_runStart) B.pre
  have hown : s.vm.findClass RL = some m.cls := findClass_of_methodNamed B.named
  have hlocks := B.notSynchronized
  have htab : c.exceptionTable.toList = [⟨0, 9, 12, 21⟩] := vx_table (x := yL_runStart) B (hts _ List.mem_cons_self)
  have hS : va_S (gA q [0, 1, 2, 7, 8, 9, 10, 23]) s.heap s.heap [] := va_S.rf
  have hl := lv_entry ([.ref (q 0), .int p1, .ref (q 23)]) (n := 4) (Nat.le_of_ble_eq_true rfl)
  rw [lg_entry_eq]
  generalize (lg_sl ([.ref (q 0), .int p1, .ref (q 23)]) ++ List.replicate (4 - (lg_sl ([.ref (q 0), .int p1, .ref (q 23)])).length) Slot.unset).toArray = ls at hl ⊢
  have hl : lv_has ls 4 [(0, .ref (q 0)), (1, .int p1), (2, .ref (q 23))] := hl
  have hDm : ∀ (z0 : Int32) (z1 : (Nat → Int32)) (z2 : Int32) (z3 : (Nat → Int32)) (z4 : (Nat → Int32)) (z5 : (Nat → Int32)) (z6 : (Nat → Int64)), va_D (gA q [0, 1, 2, 7, 8, 9, 10, 23]) (w_0_1_2_7_8_9_10_23 q cI cJ cD z0 z1 z2 z3 z4 z5 z6) := fun _ _ _ _ _ _ _ => gD_of hq [0, 1, 2, 7, 8, 9, 10, 23] rfl rfl rfl (fun k h => ⟨k, h, rfl⟩)
  unfold fL_runStart at hf
  refine lv_aload_n hx hb dL_runStart_0 rfl (lv_at hl 2 rfl) ?_
  refine lv_iconst (v := (0 : Int32)) hx hb dL_runStart_1 (by decide) ?_
  refine lv_aload_n hx hb dL_runStart_2 rfl (lv_at hl 0 rfl) ?_
  refine lv_iload_n hx hb dL_runStart_3 rfl (lv_at hl 1 rfl) ?_
  rcases bx_some hf with ⟨⟨e4, Rn4, Ra4, Rb4, Rd4⟩, hc, hf⟩ | ⟨⟨r4, Rn4, Ra4, Rb4, Rd4⟩, hc, hf⟩
  · try dsimp only at hf
    refine g_callX (ws' := (w_0_1_2_7_8_9_10_23 q cI cJ cD Tn Ta Rn4 Ra4 Rb4 Rd4 Oa)) hq [0, 1, 2, 7, 8, 9, 10, 23] [0, 1, 2, 7, 8, 9, 10] [.inl 0, .inl 1, .inl 2, .inl 3, .inl 4, .inl 5, .inl 6, .inr 7] (vx_runV (As := [.int p1]) (rest := [.int (0 : Int32), .ref (q 23)]) ⟨hx, hb, hml, hown, hts⟩ (kX8_runStartx l hlt D cI cJ cD sa q hq N Tn Ta Rn Ra Rb Rd p1 e4 Rn4 Ra4 Rb4 Rd4 hc) (cwV 1 hts gL_runStart_X8_runStart rfl rfl rfl (by decide +kernel) ⟨(Nat.le_of_ble_eq_true rfl), (Nat.le_of_ble_eq_true rfl)⟩) ⟨gPx_blind, va_recv hE.1 hP (ci := 6) (q0 := 0) rfl rfl, fun U hU hW => ⟨rfl, by rw [hU]; exact hP.sub (ws' := (w_0_1_2_7_8_9_10 q cI cJ cD Tn Ta Rn Ra Rb Rd)) [0, 1, 2, 3, 4, 5, 6] rfl, gEv.warm hW hE, gXe.go hW hS (gMono rfl) hXe hU⟩⟩ rfl rfl hl.1 rfl (lv_room (Nat.le_of_ble_eq_true rfl)) dL_runStart_4 ⟨(Nat.le_of_ble_eq_true rfl), (Nat.le_of_ble_eq_true rfl)⟩) hP hS (gSub rfl) rfl rfl rfl rfl (fun ce q9 H locs hP hS hce hcv hcl => ?_)
    by_cases c_1 : e4 = 0
    · have hf := (if_pos c_1).symm.trans hf
      subst c_1
      refine vx_catch (E := "java/lang/IndexOutOfBoundsException") (name := "java/lang/IndexOutOfBoundsException") hown [] ⟨0, 9, 12, 21⟩ [] htab (fun _ h => nomatch h) rfl (by decide) (hts (.classLink RL 21 "java/lang/IndexOutOfBoundsException") (by decide +kernel)) (va_Nw.use rfl (hXe.1.2.1 "java/lang/IndexOutOfBoundsException" (by decide +kernel))) hce hcv hcl ?_
      refine lv_astore_n (lv' := [(3, .ref q9), (0, .ref (q 0)), (1, .int p1), (2, .ref (q 23))]) hx hb dL_runStart_12 rfl hl (by decide) rfl (fun ls hl => ?_)
      refine lv_iconst (v := (1 : Int32)) hx hb dL_runStart_13 (by decide) ?_
      cases hf
      refine W.widen (k := 1) (n := 6) (Nat.le_of_ble_eq_true rfl) (Nat.le_of_ble_eq_true rfl) ?_
      exact W.iret hx hb hr (fun t ht hW => ⟨⟨rfl, by rw [ht]; exact hP⟩, hS.F ht⟩) hS.2.2 dL_runStart_14
    have hf := (if_neg c_1).symm.trans hf
    exact nomatch hf
  try dsimp only at hf
  refine g_call0 (ws' := (w_0_1_2_7_8_9_10_23 q cI cJ cD Tn Ta Rn4 Ra4 Rb4 Rd4 Oa)) (st1 := [.int r4, .int (0 : Int32), .ref (q 23)]) hq [0, 1, 2, 7, 8, 9, 10, 23] [0, 1, 2, 7, 8, 9, 10] [.inl 0, .inl 1, .inl 2, .inl 3, .inl 4, .inl 5, .inl 6, .inr 7] (va_runV (As := [.int p1]) (rest := [.int (0 : Int32), .ref (q 23)]) ⟨hx, hb, hml, hown, hts⟩ (kX8_runStart l D cI cJ cD q hq N Tn Ta Rn Ra Rb Rd p1 r4 Rn4 Ra4 Rb4 Rd4 hc) (cwV 1 hts gL_runStart_X8_runStart rfl rfl rfl (by decide +kernel) ⟨(Nat.le_of_ble_eq_true rfl), (Nat.le_of_ble_eq_true rfl)⟩) ⟨gP_blind, va_recv hE.1 hP (ci := 6) (q0 := 0) rfl rfl, fun U hU hW => ⟨rfl, by rw [hU]; exact hP.sub (ws' := (w_0_1_2_7_8_9_10 q cI cJ cD Tn Ta Rn Ra Rb Rd)) [0, 1, 2, 3, 4, 5, 6] rfl, gEv.warm hW hE⟩⟩ rfl rfl hl.1 rfl (lv_room (Nat.le_of_ble_eq_true rfl)) dL_runStart_4 ⟨Nat.zero_le _, Nat.zero_le _⟩) hP hS (gSub rfl) rfl rfl rfl rfl rfl (fun H locs hP hS => ?_)
  refine lv_i2l (v := (r4).toInt64) hx hb dL_runStart_7 rfl ?_
  obtain ⟨g_2, hf⟩ := gd_some hf
  refine va_last hx hb hE.1 hP (hDm Tn Ta Rn4 Ra4 Rb4 Rd4 Oa) hS 7 1 rfl rfl (inb_in g_2) dL_runStart_8 (fun H locs hP _ hS => ?_)
  have hP : va_P D vwCl (w_0_1_2_7_8_9_10_23 q cI cJ cD Tn Ta Rn4 Ra4 Rb4 Rd4 (vp_updL Oa ((0 : Int32)).toNatClampNeg ((r4).toInt64))) H := hP
  refine lv_goto (tgt := 15) hx hb dL_runStart_9 (by decide) ?_
  refine lv_iconst (v := (0 : Int32)) hx hb dL_runStart_15 (by decide) ?_
  cases hf
  refine W.widen (k := 1) (n := 6) (Nat.le_of_ble_eq_true rfl) (Nat.le_of_ble_eq_true rfl) ?_
  exact W.iret hx hb hr (fun t ht hW => ⟨⟨rfl, by rw [ht]; exact hP⟩, hS.F ht⟩) hS.2.2 dL_runStart_16
set_option maxHeartbeats 4000000 in
set_option maxRecDepth 100000 in
theorem kL_runEnd (l : Launch) (hlt : l.stackTraces = false) (D : va_G) (cI cJ cD : ClassId) (sa : Nat → Nat) (q : Nat → Nat) (hq : gInj q) (N : Nat) (Tn : Int32) (Ta : (Nat → Int32)) (Rn : Int32) (Ra : (Nat → Int32)) (Rb : (Nat → Int32)) (Rd : (Nat → Int32)) (Oa : (Nat → Int64)) (p1 : Int32) (r0 : Int32) (Rn9 : Int32) (Ra9 : (Nat → Int32)) (Rb9 : (Nat → Int32)) (Rd9 : (Nat → Int32)) (Oa9 : (Nat → Int64)) (hf : fL_runEnd N Tn Ta Rn Ra Rb Rd Oa p1 = some (r0, Rn9, Ra9, Rb9, Rd9, Oa9)) : Met l yL_runEnd wsL_runEnd rL_runEndx (gPx D cI cJ cD sa (gA q [0, 1, 2, 7, 8, 9, 10, 23]) [.ref (q 0), .int p1, .ref (q 23)] (w_0_1_2_7_8_9_10_23 q cI cJ cD Tn Ta Rn Ra Rb Rd Oa)) (gQ D (some (.int r0)) (w_0_1_2_7_8_9_10_23 q cI cJ cD Tn Ta Rn9 Ra9 Rb9 Rd9 Oa9) (gA q [0, 1, 2, 7, 8, 9, 10, 23])) 1 6 (gA q [0, 1, 2, 7, 8, 9, 10, 23]) := by
  refine g_ofWH (cc := cL_runEnd) (maxL := 4) (ret := (some .int)) (hh := [(0, 9, 12, 21)]) (by decide +kernel) rfl ?_
  intro p e s m args below meth c s₁ B hml hv
  obtain ⟨rfl, hP, hE, hXe⟩ := hv
  have hx := B.exec
  have hb := B.bytes
  have hr := B.returns
  have hts := atoms_spec (ws := wsL_runEnd) B.pre
  have hown : s.vm.findClass RL = some m.cls := findClass_of_methodNamed B.named
  have hlocks := B.notSynchronized
  have htab : c.exceptionTable.toList = [⟨0, 9, 12, 21⟩] := vx_table (x := yL_runEnd) B (hts _ List.mem_cons_self)
  have hS : va_S (gA q [0, 1, 2, 7, 8, 9, 10, 23]) s.heap s.heap [] := va_S.rf
  have hl := lv_entry ([.ref (q 0), .int p1, .ref (q 23)]) (n := 4) (Nat.le_of_ble_eq_true rfl)
  rw [lg_entry_eq]
  generalize (lg_sl ([.ref (q 0), .int p1, .ref (q 23)]) ++ List.replicate (4 - (lg_sl ([.ref (q 0), .int p1, .ref (q 23)])).length) Slot.unset).toArray = ls at hl ⊢
  have hl : lv_has ls 4 [(0, .ref (q 0)), (1, .int p1), (2, .ref (q 23))] := hl
  have hDm : ∀ (z0 : Int32) (z1 : (Nat → Int32)) (z2 : Int32) (z3 : (Nat → Int32)) (z4 : (Nat → Int32)) (z5 : (Nat → Int32)) (z6 : (Nat → Int64)), va_D (gA q [0, 1, 2, 7, 8, 9, 10, 23]) (w_0_1_2_7_8_9_10_23 q cI cJ cD z0 z1 z2 z3 z4 z5 z6) := fun _ _ _ _ _ _ _ => gD_of hq [0, 1, 2, 7, 8, 9, 10, 23] rfl rfl rfl (fun k h => ⟨k, h, rfl⟩)
  unfold fL_runEnd at hf
  refine lv_aload_n hx hb dL_runEnd_0 rfl (lv_at hl 2 rfl) ?_
  refine lv_iconst (v := (0 : Int32)) hx hb dL_runEnd_1 (by decide) ?_
  refine lv_aload_n hx hb dL_runEnd_2 rfl (lv_at hl 0 rfl) ?_
  refine lv_iload_n hx hb dL_runEnd_3 rfl (lv_at hl 1 rfl) ?_
  rcases bx_some hf with ⟨⟨e4, Rn4, Ra4, Rb4, Rd4⟩, hc, hf⟩ | ⟨⟨r4, Rn4, Ra4, Rb4, Rd4⟩, hc, hf⟩
  · try dsimp only at hf
    refine g_callX (ws' := (w_0_1_2_7_8_9_10_23 q cI cJ cD Tn Ta Rn4 Ra4 Rb4 Rd4 Oa)) hq [0, 1, 2, 7, 8, 9, 10, 23] [0, 1, 2, 7, 8, 9, 10] [.inl 0, .inl 1, .inl 2, .inl 3, .inl 4, .inl 5, .inl 6, .inr 7] (vx_runV (As := [.int p1]) (rest := [.int (0 : Int32), .ref (q 23)]) ⟨hx, hb, hml, hown, hts⟩ (kX8_runEndx l hlt D cI cJ cD sa q hq N Tn Ta Rn Ra Rb Rd p1 e4 Rn4 Ra4 Rb4 Rd4 hc) (cwV 1 hts gL_runEnd_X8_runEnd rfl rfl rfl (by decide +kernel) ⟨(Nat.le_of_ble_eq_true rfl), (Nat.le_of_ble_eq_true rfl)⟩) ⟨gPx_blind, va_recv hE.1 hP (ci := 6) (q0 := 0) rfl rfl, fun U hU hW => ⟨rfl, by rw [hU]; exact hP.sub (ws' := (w_0_1_2_7_8_9_10 q cI cJ cD Tn Ta Rn Ra Rb Rd)) [0, 1, 2, 3, 4, 5, 6] rfl, gEv.warm hW hE, gXe.go hW hS (gMono rfl) hXe hU⟩⟩ rfl rfl hl.1 rfl (lv_room (Nat.le_of_ble_eq_true rfl)) dL_runEnd_4 ⟨(Nat.le_of_ble_eq_true rfl), (Nat.le_of_ble_eq_true rfl)⟩) hP hS (gSub rfl) rfl rfl rfl rfl (fun ce q9 H locs hP hS hce hcv hcl => ?_)
    by_cases c_1 : e4 = 0
    · have hf := (if_pos c_1).symm.trans hf
      subst c_1
      refine vx_catch (E := "java/lang/IndexOutOfBoundsException") (name := "java/lang/IndexOutOfBoundsException") hown [] ⟨0, 9, 12, 21⟩ [] htab (fun _ h => nomatch h) rfl (by decide) (hts (.classLink RL 21 "java/lang/IndexOutOfBoundsException") (by decide +kernel)) (va_Nw.use rfl (hXe.1.2.1 "java/lang/IndexOutOfBoundsException" (by decide +kernel))) hce hcv hcl ?_
      refine lv_astore_n (lv' := [(3, .ref q9), (0, .ref (q 0)), (1, .int p1), (2, .ref (q 23))]) hx hb dL_runEnd_12 rfl hl (by decide) rfl (fun ls hl => ?_)
      refine lv_iconst (v := (1 : Int32)) hx hb dL_runEnd_13 (by decide) ?_
      cases hf
      refine W.widen (k := 1) (n := 6) (Nat.le_of_ble_eq_true rfl) (Nat.le_of_ble_eq_true rfl) ?_
      exact W.iret hx hb hr (fun t ht hW => ⟨⟨rfl, by rw [ht]; exact hP⟩, hS.F ht⟩) hS.2.2 dL_runEnd_14
    have hf := (if_neg c_1).symm.trans hf
    exact nomatch hf
  try dsimp only at hf
  refine g_call0 (ws' := (w_0_1_2_7_8_9_10_23 q cI cJ cD Tn Ta Rn4 Ra4 Rb4 Rd4 Oa)) (st1 := [.int r4, .int (0 : Int32), .ref (q 23)]) hq [0, 1, 2, 7, 8, 9, 10, 23] [0, 1, 2, 7, 8, 9, 10] [.inl 0, .inl 1, .inl 2, .inl 3, .inl 4, .inl 5, .inl 6, .inr 7] (va_runV (As := [.int p1]) (rest := [.int (0 : Int32), .ref (q 23)]) ⟨hx, hb, hml, hown, hts⟩ (kX8_runEnd l D cI cJ cD q hq N Tn Ta Rn Ra Rb Rd p1 r4 Rn4 Ra4 Rb4 Rd4 hc) (cwV 1 hts gL_runEnd_X8_runEnd rfl rfl rfl (by decide +kernel) ⟨(Nat.le_of_ble_eq_true rfl), (Nat.le_of_ble_eq_true rfl)⟩) ⟨gP_blind, va_recv hE.1 hP (ci := 6) (q0 := 0) rfl rfl, fun U hU hW => ⟨rfl, by rw [hU]; exact hP.sub (ws' := (w_0_1_2_7_8_9_10 q cI cJ cD Tn Ta Rn Ra Rb Rd)) [0, 1, 2, 3, 4, 5, 6] rfl, gEv.warm hW hE⟩⟩ rfl rfl hl.1 rfl (lv_room (Nat.le_of_ble_eq_true rfl)) dL_runEnd_4 ⟨Nat.zero_le _, Nat.zero_le _⟩) hP hS (gSub rfl) rfl rfl rfl rfl rfl (fun H locs hP hS => ?_)
  refine lv_i2l (v := (r4).toInt64) hx hb dL_runEnd_7 rfl ?_
  obtain ⟨g_2, hf⟩ := gd_some hf
  refine va_last hx hb hE.1 hP (hDm Tn Ta Rn4 Ra4 Rb4 Rd4 Oa) hS 7 1 rfl rfl (inb_in g_2) dL_runEnd_8 (fun H locs hP _ hS => ?_)
  have hP : va_P D vwCl (w_0_1_2_7_8_9_10_23 q cI cJ cD Tn Ta Rn4 Ra4 Rb4 Rd4 (vp_updL Oa ((0 : Int32)).toNatClampNeg ((r4).toInt64))) H := hP
  refine lv_goto (tgt := 15) hx hb dL_runEnd_9 (by decide) ?_
  refine lv_iconst (v := (0 : Int32)) hx hb dL_runEnd_15 (by decide) ?_
  cases hf
  refine W.widen (k := 1) (n := 6) (Nat.le_of_ble_eq_true rfl) (Nat.le_of_ble_eq_true rfl) ?_
  exact W.iret hx hb hr (fun t ht hW => ⟨⟨rfl, by rw [ht]; exact hP⟩, hS.F ht⟩) hS.2.2 dL_runEnd_16
set_option maxHeartbeats 4000000 in
set_option maxRecDepth 100000 in
theorem kL_runPeriod (l : Launch) (hlt : l.stackTraces = false) (D : va_G) (cI cJ cD : ClassId) (sa : Nat → Nat) (q : Nat → Nat) (hq : gInj q) (N : Nat) (Tn : Int32) (Ta : (Nat → Int32)) (Rn : Int32) (Ra : (Nat → Int32)) (Rb : (Nat → Int32)) (Rd : (Nat → Int32)) (Oa : (Nat → Int64)) (p1 : Int32) (r0 : Int32) (Rn9 : Int32) (Ra9 : (Nat → Int32)) (Rb9 : (Nat → Int32)) (Rd9 : (Nat → Int32)) (Oa9 : (Nat → Int64)) (hf : fL_runPeriod N Tn Ta Rn Ra Rb Rd Oa p1 = some (r0, Rn9, Ra9, Rb9, Rd9, Oa9)) : Met l yL_runPeriod wsL_runPeriod rL_runPeriodx (gPx D cI cJ cD sa (gA q [0, 1, 2, 7, 8, 9, 10, 23]) [.ref (q 0), .int p1, .ref (q 23)] (w_0_1_2_7_8_9_10_23 q cI cJ cD Tn Ta Rn Ra Rb Rd Oa)) (gQ D (some (.int r0)) (w_0_1_2_7_8_9_10_23 q cI cJ cD Tn Ta Rn9 Ra9 Rb9 Rd9 Oa9) (gA q [0, 1, 2, 7, 8, 9, 10, 23])) 1 6 (gA q [0, 1, 2, 7, 8, 9, 10, 23]) := by
  refine g_ofWH (cc := cL_runPeriod) (maxL := 4) (ret := (some .int)) (hh := [(0, 9, 12, 21)]) (by decide +kernel) rfl ?_
  intro p e s m args below meth c s₁ B hml hv
  obtain ⟨rfl, hP, hE, hXe⟩ := hv
  have hx := B.exec
  have hb := B.bytes
  have hr := B.returns
  have hts := atoms_spec (ws := wsL_runPeriod) B.pre
  have hown : s.vm.findClass RL = some m.cls := findClass_of_methodNamed B.named
  have hlocks := B.notSynchronized
  have htab : c.exceptionTable.toList = [⟨0, 9, 12, 21⟩] := vx_table (x := yL_runPeriod) B (hts _ List.mem_cons_self)
  have hS : va_S (gA q [0, 1, 2, 7, 8, 9, 10, 23]) s.heap s.heap [] := va_S.rf
  have hl := lv_entry ([.ref (q 0), .int p1, .ref (q 23)]) (n := 4) (Nat.le_of_ble_eq_true rfl)
  rw [lg_entry_eq]
  generalize (lg_sl ([.ref (q 0), .int p1, .ref (q 23)]) ++ List.replicate (4 - (lg_sl ([.ref (q 0), .int p1, .ref (q 23)])).length) Slot.unset).toArray = ls at hl ⊢
  have hl : lv_has ls 4 [(0, .ref (q 0)), (1, .int p1), (2, .ref (q 23))] := hl
  have hDm : ∀ (z0 : Int32) (z1 : (Nat → Int32)) (z2 : Int32) (z3 : (Nat → Int32)) (z4 : (Nat → Int32)) (z5 : (Nat → Int32)) (z6 : (Nat → Int64)), va_D (gA q [0, 1, 2, 7, 8, 9, 10, 23]) (w_0_1_2_7_8_9_10_23 q cI cJ cD z0 z1 z2 z3 z4 z5 z6) := fun _ _ _ _ _ _ _ => gD_of hq [0, 1, 2, 7, 8, 9, 10, 23] rfl rfl rfl (fun k h => ⟨k, h, rfl⟩)
  unfold fL_runPeriod at hf
  refine lv_aload_n hx hb dL_runPeriod_0 rfl (lv_at hl 2 rfl) ?_
  refine lv_iconst (v := (0 : Int32)) hx hb dL_runPeriod_1 (by decide) ?_
  refine lv_aload_n hx hb dL_runPeriod_2 rfl (lv_at hl 0 rfl) ?_
  refine lv_iload_n hx hb dL_runPeriod_3 rfl (lv_at hl 1 rfl) ?_
  rcases bx_some hf with ⟨⟨e4, Rn4, Ra4, Rb4, Rd4⟩, hc, hf⟩ | ⟨⟨r4, Rn4, Ra4, Rb4, Rd4⟩, hc, hf⟩
  · try dsimp only at hf
    refine g_callX (ws' := (w_0_1_2_7_8_9_10_23 q cI cJ cD Tn Ta Rn4 Ra4 Rb4 Rd4 Oa)) hq [0, 1, 2, 7, 8, 9, 10, 23] [0, 1, 2, 7, 8, 9, 10] [.inl 0, .inl 1, .inl 2, .inl 3, .inl 4, .inl 5, .inl 6, .inr 7] (vx_runV (As := [.int p1]) (rest := [.int (0 : Int32), .ref (q 23)]) ⟨hx, hb, hml, hown, hts⟩ (kX8_runPeriodx l hlt D cI cJ cD sa q hq N Tn Ta Rn Ra Rb Rd p1 e4 Rn4 Ra4 Rb4 Rd4 hc) (cwV 1 hts gL_runPeriod_X8_runPeriod rfl rfl rfl (by decide +kernel) ⟨(Nat.le_of_ble_eq_true rfl), (Nat.le_of_ble_eq_true rfl)⟩) ⟨gPx_blind, va_recv hE.1 hP (ci := 6) (q0 := 0) rfl rfl, fun U hU hW => ⟨rfl, by rw [hU]; exact hP.sub (ws' := (w_0_1_2_7_8_9_10 q cI cJ cD Tn Ta Rn Ra Rb Rd)) [0, 1, 2, 3, 4, 5, 6] rfl, gEv.warm hW hE, gXe.go hW hS (gMono rfl) hXe hU⟩⟩ rfl rfl hl.1 rfl (lv_room (Nat.le_of_ble_eq_true rfl)) dL_runPeriod_4 ⟨(Nat.le_of_ble_eq_true rfl), (Nat.le_of_ble_eq_true rfl)⟩) hP hS (gSub rfl) rfl rfl rfl rfl (fun ce q9 H locs hP hS hce hcv hcl => ?_)
    by_cases c_1 : e4 = 0
    · have hf := (if_pos c_1).symm.trans hf
      subst c_1
      refine vx_catch (E := "java/lang/IndexOutOfBoundsException") (name := "java/lang/IndexOutOfBoundsException") hown [] ⟨0, 9, 12, 21⟩ [] htab (fun _ h => nomatch h) rfl (by decide) (hts (.classLink RL 21 "java/lang/IndexOutOfBoundsException") (by decide +kernel)) (va_Nw.use rfl (hXe.1.2.1 "java/lang/IndexOutOfBoundsException" (by decide +kernel))) hce hcv hcl ?_
      refine lv_astore_n (lv' := [(3, .ref q9), (0, .ref (q 0)), (1, .int p1), (2, .ref (q 23))]) hx hb dL_runPeriod_12 rfl hl (by decide) rfl (fun ls hl => ?_)
      refine lv_iconst (v := (1 : Int32)) hx hb dL_runPeriod_13 (by decide) ?_
      cases hf
      refine W.widen (k := 1) (n := 6) (Nat.le_of_ble_eq_true rfl) (Nat.le_of_ble_eq_true rfl) ?_
      exact W.iret hx hb hr (fun t ht hW => ⟨⟨rfl, by rw [ht]; exact hP⟩, hS.F ht⟩) hS.2.2 dL_runPeriod_14
    have hf := (if_neg c_1).symm.trans hf
    exact nomatch hf
  try dsimp only at hf
  refine g_call0 (ws' := (w_0_1_2_7_8_9_10_23 q cI cJ cD Tn Ta Rn4 Ra4 Rb4 Rd4 Oa)) (st1 := [.int r4, .int (0 : Int32), .ref (q 23)]) hq [0, 1, 2, 7, 8, 9, 10, 23] [0, 1, 2, 7, 8, 9, 10] [.inl 0, .inl 1, .inl 2, .inl 3, .inl 4, .inl 5, .inl 6, .inr 7] (va_runV (As := [.int p1]) (rest := [.int (0 : Int32), .ref (q 23)]) ⟨hx, hb, hml, hown, hts⟩ (kX8_runPeriod l D cI cJ cD q hq N Tn Ta Rn Ra Rb Rd p1 r4 Rn4 Ra4 Rb4 Rd4 hc) (cwV 1 hts gL_runPeriod_X8_runPeriod rfl rfl rfl (by decide +kernel) ⟨(Nat.le_of_ble_eq_true rfl), (Nat.le_of_ble_eq_true rfl)⟩) ⟨gP_blind, va_recv hE.1 hP (ci := 6) (q0 := 0) rfl rfl, fun U hU hW => ⟨rfl, by rw [hU]; exact hP.sub (ws' := (w_0_1_2_7_8_9_10 q cI cJ cD Tn Ta Rn Ra Rb Rd)) [0, 1, 2, 3, 4, 5, 6] rfl, gEv.warm hW hE⟩⟩ rfl rfl hl.1 rfl (lv_room (Nat.le_of_ble_eq_true rfl)) dL_runPeriod_4 ⟨Nat.zero_le _, Nat.zero_le _⟩) hP hS (gSub rfl) rfl rfl rfl rfl rfl (fun H locs hP hS => ?_)
  refine lv_i2l (v := (r4).toInt64) hx hb dL_runPeriod_7 rfl ?_
  obtain ⟨g_2, hf⟩ := gd_some hf
  refine va_last hx hb hE.1 hP (hDm Tn Ta Rn4 Ra4 Rb4 Rd4 Oa) hS 7 1 rfl rfl (inb_in g_2) dL_runPeriod_8 (fun H locs hP _ hS => ?_)
  have hP : va_P D vwCl (w_0_1_2_7_8_9_10_23 q cI cJ cD Tn Ta Rn4 Ra4 Rb4 Rd4 (vp_updL Oa ((0 : Int32)).toNatClampNeg ((r4).toInt64))) H := hP
  refine lv_goto (tgt := 15) hx hb dL_runPeriod_9 (by decide) ?_
  refine lv_iconst (v := (0 : Int32)) hx hb dL_runPeriod_15 (by decide) ?_
  cases hf
  refine W.widen (k := 1) (n := 6) (Nat.le_of_ble_eq_true rfl) (Nat.le_of_ble_eq_true rfl) ?_
  exact W.iret hx hb hr (fun t ht hW => ⟨⟨rfl, by rw [ht]; exact hP⟩, hS.F ht⟩) hS.2.2 dL_runPeriod_16
set_option maxHeartbeats 4000000 in
set_option maxRecDepth 100000 in
theorem kL_runsOver (l : Launch) (hlt : l.stackTraces = false) (D : va_G) (cI cJ cD : ClassId) (sa : Nat → Nat) (q : Nat → Nat) (hq : gInj q) (N : Nat) (Tn : Int32) (Ta : (Nat → Int32)) (Rn : Int32) (Ra : (Nat → Int32)) (Rb : (Nat → Int32)) (Rd : (Nat → Int32)) (Oa : (Nat → Int64)) (p1 : Int32) (r0 : Int32) (Rn9 : Int32) (Ra9 : (Nat → Int32)) (Rb9 : (Nat → Int32)) (Rd9 : (Nat → Int32)) (Oa9 : (Nat → Int64)) (hf : fL_runsOver N Tn Ta Rn Ra Rb Rd Oa p1 = some (r0, Rn9, Ra9, Rb9, Rd9, Oa9)) : Met l yL_runsOver wsL_runsOver rL_runsOverx (gPx D cI cJ cD sa (gA q [0, 1, 2, 7, 8, 9, 10, 23]) [.ref (q 0), .int p1, .ref (q 23)] (w_0_1_2_7_8_9_10_23 q cI cJ cD Tn Ta Rn Ra Rb Rd Oa)) (gQ D (some (.int r0)) (w_0_1_2_7_8_9_10_23 q cI cJ cD Tn Ta Rn9 Ra9 Rb9 Rd9 Oa9) (gA q [0, 1, 2, 7, 8, 9, 10, 23])) 1 6 (gA q [0, 1, 2, 7, 8, 9, 10, 23]) := by
  refine g_ofWH (cc := cL_runsOver) (maxL := 4) (ret := (some .int)) (hh := [(0, 9, 12, 21)]) (by decide +kernel) rfl ?_
  intro p e s m args below meth c s₁ B hml hv
  obtain ⟨rfl, hP, hE, hXe⟩ := hv
  have hx := B.exec
  have hb := B.bytes
  have hr := B.returns
  have hts := atoms_spec (ws := wsL_runsOver) B.pre
  have hown : s.vm.findClass RL = some m.cls := findClass_of_methodNamed B.named
  have hlocks := B.notSynchronized
  have htab : c.exceptionTable.toList = [⟨0, 9, 12, 21⟩] := vx_table (x := yL_runsOver) B (hts _ List.mem_cons_self)
  have hS : va_S (gA q [0, 1, 2, 7, 8, 9, 10, 23]) s.heap s.heap [] := va_S.rf
  have hl := lv_entry ([.ref (q 0), .int p1, .ref (q 23)]) (n := 4) (Nat.le_of_ble_eq_true rfl)
  rw [lg_entry_eq]
  generalize (lg_sl ([.ref (q 0), .int p1, .ref (q 23)]) ++ List.replicate (4 - (lg_sl ([.ref (q 0), .int p1, .ref (q 23)])).length) Slot.unset).toArray = ls at hl ⊢
  have hl : lv_has ls 4 [(0, .ref (q 0)), (1, .int p1), (2, .ref (q 23))] := hl
  have hDm : ∀ (z0 : Int32) (z1 : (Nat → Int32)) (z2 : Int32) (z3 : (Nat → Int32)) (z4 : (Nat → Int32)) (z5 : (Nat → Int32)) (z6 : (Nat → Int64)), va_D (gA q [0, 1, 2, 7, 8, 9, 10, 23]) (w_0_1_2_7_8_9_10_23 q cI cJ cD z0 z1 z2 z3 z4 z5 z6) := fun _ _ _ _ _ _ _ => gD_of hq [0, 1, 2, 7, 8, 9, 10, 23] rfl rfl rfl (fun k h => ⟨k, h, rfl⟩)
  unfold fL_runsOver at hf
  refine lv_aload_n hx hb dL_runsOver_0 rfl (lv_at hl 2 rfl) ?_
  refine lv_iconst (v := (0 : Int32)) hx hb dL_runsOver_1 (by decide) ?_
  refine lv_aload_n hx hb dL_runsOver_2 rfl (lv_at hl 0 rfl) ?_
  refine lv_iload_n hx hb dL_runsOver_3 rfl (lv_at hl 1 rfl) ?_
  rcases bx_some hf with ⟨⟨e4, Rn4, Ra4, Rb4, Rd4⟩, hc, hf⟩ | ⟨⟨r4, Rn4, Ra4, Rb4, Rd4⟩, hc, hf⟩
  · try dsimp only at hf
    refine g_callX (ws' := (w_0_1_2_7_8_9_10_23 q cI cJ cD Tn Ta Rn4 Ra4 Rb4 Rd4 Oa)) hq [0, 1, 2, 7, 8, 9, 10, 23] [0, 1, 2, 7, 8, 9, 10] [.inl 0, .inl 1, .inl 2, .inl 3, .inl 4, .inl 5, .inl 6, .inr 7] (vx_runV (As := [.int p1]) (rest := [.int (0 : Int32), .ref (q 23)]) ⟨hx, hb, hml, hown, hts⟩ (kX8_runsOverx l hlt D cI cJ cD sa q hq N Tn Ta Rn Ra Rb Rd p1 e4 Rn4 Ra4 Rb4 Rd4 hc) (cwV 1 hts gL_runsOver_X8_runsOver rfl rfl rfl (by decide +kernel) ⟨(Nat.le_of_ble_eq_true rfl), (Nat.le_of_ble_eq_true rfl)⟩) ⟨gPx_blind, va_recv hE.1 hP (ci := 6) (q0 := 0) rfl rfl, fun U hU hW => ⟨rfl, by rw [hU]; exact hP.sub (ws' := (w_0_1_2_7_8_9_10 q cI cJ cD Tn Ta Rn Ra Rb Rd)) [0, 1, 2, 3, 4, 5, 6] rfl, gEv.warm hW hE, gXe.go hW hS (gMono rfl) hXe hU⟩⟩ rfl rfl hl.1 rfl (lv_room (Nat.le_of_ble_eq_true rfl)) dL_runsOver_4 ⟨(Nat.le_of_ble_eq_true rfl), (Nat.le_of_ble_eq_true rfl)⟩) hP hS (gSub rfl) rfl rfl rfl rfl (fun ce q9 H locs hP hS hce hcv hcl => ?_)
    by_cases c_1 : e4 = 0
    · have hf := (if_pos c_1).symm.trans hf
      subst c_1
      refine vx_catch (E := "java/lang/IndexOutOfBoundsException") (name := "java/lang/IndexOutOfBoundsException") hown [] ⟨0, 9, 12, 21⟩ [] htab (fun _ h => nomatch h) rfl (by decide) (hts (.classLink RL 21 "java/lang/IndexOutOfBoundsException") (by decide +kernel)) (va_Nw.use rfl (hXe.1.2.1 "java/lang/IndexOutOfBoundsException" (by decide +kernel))) hce hcv hcl ?_
      refine lv_astore_n (lv' := [(3, .ref q9), (0, .ref (q 0)), (1, .int p1), (2, .ref (q 23))]) hx hb dL_runsOver_12 rfl hl (by decide) rfl (fun ls hl => ?_)
      refine lv_iconst (v := (1 : Int32)) hx hb dL_runsOver_13 (by decide) ?_
      cases hf
      refine W.widen (k := 1) (n := 6) (Nat.le_of_ble_eq_true rfl) (Nat.le_of_ble_eq_true rfl) ?_
      exact W.iret hx hb hr (fun t ht hW => ⟨⟨rfl, by rw [ht]; exact hP⟩, hS.F ht⟩) hS.2.2 dL_runsOver_14
    have hf := (if_neg c_1).symm.trans hf
    exact nomatch hf
  try dsimp only at hf
  refine g_call0 (ws' := (w_0_1_2_7_8_9_10_23 q cI cJ cD Tn Ta Rn4 Ra4 Rb4 Rd4 Oa)) (st1 := [.int r4, .int (0 : Int32), .ref (q 23)]) hq [0, 1, 2, 7, 8, 9, 10, 23] [0, 1, 2, 7, 8, 9, 10] [.inl 0, .inl 1, .inl 2, .inl 3, .inl 4, .inl 5, .inl 6, .inr 7] (va_runV (As := [.int p1]) (rest := [.int (0 : Int32), .ref (q 23)]) ⟨hx, hb, hml, hown, hts⟩ (kX8_runsOver l D cI cJ cD q hq N Tn Ta Rn Ra Rb Rd p1 r4 Rn4 Ra4 Rb4 Rd4 hc) (cwV 1 hts gL_runsOver_X8_runsOver rfl rfl rfl (by decide +kernel) ⟨(Nat.le_of_ble_eq_true rfl), (Nat.le_of_ble_eq_true rfl)⟩) ⟨gP_blind, va_recv hE.1 hP (ci := 6) (q0 := 0) rfl rfl, fun U hU hW => ⟨rfl, by rw [hU]; exact hP.sub (ws' := (w_0_1_2_7_8_9_10 q cI cJ cD Tn Ta Rn Ra Rb Rd)) [0, 1, 2, 3, 4, 5, 6] rfl, gEv.warm hW hE⟩⟩ rfl rfl hl.1 rfl (lv_room (Nat.le_of_ble_eq_true rfl)) dL_runsOver_4 ⟨Nat.zero_le _, Nat.zero_le _⟩) hP hS (gSub rfl) rfl rfl rfl rfl rfl (fun H locs hP hS => ?_)
  refine lv_i2l (v := (r4).toInt64) hx hb dL_runsOver_7 rfl ?_
  obtain ⟨g_2, hf⟩ := gd_some hf
  refine va_last hx hb hE.1 hP (hDm Tn Ta Rn4 Ra4 Rb4 Rd4 Oa) hS 7 1 rfl rfl (inb_in g_2) dL_runsOver_8 (fun H locs hP _ hS => ?_)
  have hP : va_P D vwCl (w_0_1_2_7_8_9_10_23 q cI cJ cD Tn Ta Rn4 Ra4 Rb4 Rd4 (vp_updL Oa ((0 : Int32)).toNatClampNeg ((r4).toInt64))) H := hP
  refine lv_goto (tgt := 15) hx hb dL_runsOver_9 (by decide) ?_
  refine lv_iconst (v := (0 : Int32)) hx hb dL_runsOver_15 (by decide) ?_
  cases hf
  refine W.widen (k := 1) (n := 6) (Nat.le_of_ble_eq_true rfl) (Nat.le_of_ble_eq_true rfl) ?_
  exact W.iret hx hb hr (fun t ht hW => ⟨⟨rfl, by rw [ht]; exact hP⟩, hS.F ht⟩) hS.2.2 dL_runsOver_16
set_option maxHeartbeats 4000000 in
set_option maxRecDepth 100000 in
theorem kL_suffixAt (l : Launch) (hlt : l.stackTraces = false) (D : va_G) (cI cJ cD : ClassId) (sa : Nat → Nat) (q : Nat → Nat) (hq : gInj q) (N : Nat) (Tn : Int32) (Ta : (Nat → Int32)) (Ua : (Nat → Int32)) (Oa : (Nat → Int64)) (p1 : Int32) (r0 : Int32) (Ua9 : (Nat → Int32)) (Oa9 : (Nat → Int64)) (hf : fL_suffixAt N Tn Ta Ua Oa p1 = some (r0, Ua9, Oa9)) : Met l yL_suffixAt wsL_suffixAt rL_suffixAtx (gPx D cI cJ cD sa (gA q [0, 1, 2, 11, 12, 23]) [.ref (q 0), .int p1, .ref (q 23)] (w_0_1_2_11_12_23 q cI cJ cD Tn Ta Ua Oa)) (gQ D (some (.int r0)) (w_0_1_2_11_12_23 q cI cJ cD Tn Ta Ua9 Oa9) (gA q [0, 1, 2, 11, 12, 23])) 1 6 (gA q [0, 1, 2, 11, 12, 23]) := by
  refine g_ofWH (cc := cL_suffixAt) (maxL := 4) (ret := (some .int)) (hh := [(0, 9, 12, 21)]) (by decide +kernel) rfl ?_
  intro p e s m args below meth c s₁ B hml hv
  obtain ⟨rfl, hP, hE, hXe⟩ := hv
  have hx := B.exec
  have hb := B.bytes
  have hr := B.returns
  have hts := atoms_spec (ws := wsL_suffixAt) B.pre
  have hown : s.vm.findClass RL = some m.cls := findClass_of_methodNamed B.named
  have hlocks := B.notSynchronized
  have htab : c.exceptionTable.toList = [⟨0, 9, 12, 21⟩] := vx_table (x := yL_suffixAt) B (hts _ List.mem_cons_self)
  have hS : va_S (gA q [0, 1, 2, 11, 12, 23]) s.heap s.heap [] := va_S.rf
  have hl := lv_entry ([.ref (q 0), .int p1, .ref (q 23)]) (n := 4) (Nat.le_of_ble_eq_true rfl)
  rw [lg_entry_eq]
  generalize (lg_sl ([.ref (q 0), .int p1, .ref (q 23)]) ++ List.replicate (4 - (lg_sl ([.ref (q 0), .int p1, .ref (q 23)])).length) Slot.unset).toArray = ls at hl ⊢
  have hl : lv_has ls 4 [(0, .ref (q 0)), (1, .int p1), (2, .ref (q 23))] := hl
  have hDm : ∀ (z0 : Int32) (z1 : (Nat → Int32)) (z2 : (Nat → Int32)) (z3 : (Nat → Int64)), va_D (gA q [0, 1, 2, 11, 12, 23]) (w_0_1_2_11_12_23 q cI cJ cD z0 z1 z2 z3) := fun _ _ _ _ => gD_of hq [0, 1, 2, 11, 12, 23] rfl rfl rfl (fun k h => ⟨k, h, rfl⟩)
  unfold fL_suffixAt at hf
  refine lv_aload_n hx hb dL_suffixAt_0 rfl (lv_at hl 2 rfl) ?_
  refine lv_iconst (v := (0 : Int32)) hx hb dL_suffixAt_1 (by decide) ?_
  refine lv_aload_n hx hb dL_suffixAt_2 rfl (lv_at hl 0 rfl) ?_
  refine lv_iload_n hx hb dL_suffixAt_3 rfl (lv_at hl 1 rfl) ?_
  rcases bx_some hf with ⟨⟨e4, Ua4⟩, hc, hf⟩ | ⟨⟨r4, Ua4⟩, hc, hf⟩
  · try dsimp only at hf
    refine g_callX (ws' := (w_0_1_2_11_12_23 q cI cJ cD Tn Ta Ua4 Oa)) hq [0, 1, 2, 11, 12, 23] [0, 1, 2, 11, 12] [.inl 0, .inl 1, .inl 2, .inl 3, .inl 4, .inr 5] (vx_runV (As := [.int p1]) (rest := [.int (0 : Int32), .ref (q 23)]) ⟨hx, hb, hml, hown, hts⟩ (kX8_suffixAtx l hlt D cI cJ cD sa q hq N Tn Ta Ua p1 e4 Ua4 hc) (cwV 1 hts gL_suffixAt_X8_suffixAt rfl rfl rfl (by decide +kernel) ⟨(Nat.le_of_ble_eq_true rfl), (Nat.le_of_ble_eq_true rfl)⟩) ⟨gPx_blind, va_recv hE.1 hP (ci := 6) (q0 := 0) rfl rfl, fun U hU hW => ⟨rfl, by rw [hU]; exact hP.sub (ws' := (w_0_1_2_11_12 q cI cJ cD Tn Ta Ua)) [0, 1, 2, 3, 4] rfl, gEv.warm hW hE, gXe.go hW hS (gMono rfl) hXe hU⟩⟩ rfl rfl hl.1 rfl (lv_room (Nat.le_of_ble_eq_true rfl)) dL_suffixAt_4 ⟨(Nat.le_of_ble_eq_true rfl), (Nat.le_of_ble_eq_true rfl)⟩) hP hS (gSub rfl) rfl rfl rfl rfl (fun ce q9 H locs hP hS hce hcv hcl => ?_)
    by_cases c_1 : e4 = 0
    · have hf := (if_pos c_1).symm.trans hf
      subst c_1
      refine vx_catch (E := "java/lang/IndexOutOfBoundsException") (name := "java/lang/IndexOutOfBoundsException") hown [] ⟨0, 9, 12, 21⟩ [] htab (fun _ h => nomatch h) rfl (by decide) (hts (.classLink RL 21 "java/lang/IndexOutOfBoundsException") (by decide +kernel)) (va_Nw.use rfl (hXe.1.2.1 "java/lang/IndexOutOfBoundsException" (by decide +kernel))) hce hcv hcl ?_
      refine lv_astore_n (lv' := [(3, .ref q9), (0, .ref (q 0)), (1, .int p1), (2, .ref (q 23))]) hx hb dL_suffixAt_12 rfl hl (by decide) rfl (fun ls hl => ?_)
      refine lv_iconst (v := (1 : Int32)) hx hb dL_suffixAt_13 (by decide) ?_
      cases hf
      refine W.widen (k := 1) (n := 6) (Nat.le_of_ble_eq_true rfl) (Nat.le_of_ble_eq_true rfl) ?_
      exact W.iret hx hb hr (fun t ht hW => ⟨⟨rfl, by rw [ht]; exact hP⟩, hS.F ht⟩) hS.2.2 dL_suffixAt_14
    have hf := (if_neg c_1).symm.trans hf
    exact nomatch hf
  try dsimp only at hf
  refine g_call0 (ws' := (w_0_1_2_11_12_23 q cI cJ cD Tn Ta Ua4 Oa)) (st1 := [.int r4, .int (0 : Int32), .ref (q 23)]) hq [0, 1, 2, 11, 12, 23] [0, 1, 2, 11, 12] [.inl 0, .inl 1, .inl 2, .inl 3, .inl 4, .inr 5] (va_runV (As := [.int p1]) (rest := [.int (0 : Int32), .ref (q 23)]) ⟨hx, hb, hml, hown, hts⟩ (kX8_suffixAt l D cI cJ cD q hq N Tn Ta Ua p1 r4 Ua4 hc) (cwV 1 hts gL_suffixAt_X8_suffixAt rfl rfl rfl (by decide +kernel) ⟨(Nat.le_of_ble_eq_true rfl), (Nat.le_of_ble_eq_true rfl)⟩) ⟨gP_blind, va_recv hE.1 hP (ci := 6) (q0 := 0) rfl rfl, fun U hU hW => ⟨rfl, by rw [hU]; exact hP.sub (ws' := (w_0_1_2_11_12 q cI cJ cD Tn Ta Ua)) [0, 1, 2, 3, 4] rfl, gEv.warm hW hE⟩⟩ rfl rfl hl.1 rfl (lv_room (Nat.le_of_ble_eq_true rfl)) dL_suffixAt_4 ⟨Nat.zero_le _, Nat.zero_le _⟩) hP hS (gSub rfl) rfl rfl rfl rfl rfl (fun H locs hP hS => ?_)
  refine lv_i2l (v := (r4).toInt64) hx hb dL_suffixAt_7 rfl ?_
  obtain ⟨g_2, hf⟩ := gd_some hf
  refine va_last hx hb hE.1 hP (hDm Tn Ta Ua4 Oa) hS 5 1 rfl rfl (inb_in g_2) dL_suffixAt_8 (fun H locs hP _ hS => ?_)
  have hP : va_P D vwCl (w_0_1_2_11_12_23 q cI cJ cD Tn Ta Ua4 (vp_updL Oa ((0 : Int32)).toNatClampNeg ((r4).toInt64))) H := hP
  refine lv_goto (tgt := 15) hx hb dL_suffixAt_9 (by decide) ?_
  refine lv_iconst (v := (0 : Int32)) hx hb dL_suffixAt_15 (by decide) ?_
  cases hf
  refine W.widen (k := 1) (n := 6) (Nat.le_of_ble_eq_true rfl) (Nat.le_of_ble_eq_true rfl) ?_
  exact W.iret hx hb hr (fun t ht hW => ⟨⟨rfl, by rw [ht]; exact hP⟩, hS.F ht⟩) hS.2.2 dL_suffixAt_16
set_option maxHeartbeats 4000000 in
set_option maxRecDepth 100000 in
theorem kL_rankOf (l : Launch) (hlt : l.stackTraces = false) (D : va_G) (cI cJ cD : ClassId) (sa : Nat → Nat) (q : Nat → Nat) (hq : gInj q) (N : Nat) (Tn : Int32) (Ta : (Nat → Int32)) (Ua : (Nat → Int32)) (Oa : (Nat → Int64)) (p1 : Int32) (r0 : Int32) (Ua9 : (Nat → Int32)) (Oa9 : (Nat → Int64)) (hf : fL_rankOf N Tn Ta Ua Oa p1 = some (r0, Ua9, Oa9)) : Met l yL_rankOf wsL_rankOf rL_rankOfx (gPx D cI cJ cD sa (gA q [0, 1, 2, 11, 12, 23]) [.ref (q 0), .int p1, .ref (q 23)] (w_0_1_2_11_12_23 q cI cJ cD Tn Ta Ua Oa)) (gQ D (some (.int r0)) (w_0_1_2_11_12_23 q cI cJ cD Tn Ta Ua9 Oa9) (gA q [0, 1, 2, 11, 12, 23])) 1 6 (gA q [0, 1, 2, 11, 12, 23]) := by
  refine g_ofWH (cc := cL_rankOf) (maxL := 4) (ret := (some .int)) (hh := [(0, 9, 12, 21)]) (by decide +kernel) rfl ?_
  intro p e s m args below meth c s₁ B hml hv
  obtain ⟨rfl, hP, hE, hXe⟩ := hv
  have hx := B.exec
  have hb := B.bytes
  have hr := B.returns
  have hts := atoms_spec (ws := wsL_rankOf) B.pre
  have hown : s.vm.findClass RL = some m.cls := findClass_of_methodNamed B.named
  have hlocks := B.notSynchronized
  have htab : c.exceptionTable.toList = [⟨0, 9, 12, 21⟩] := vx_table (x := yL_rankOf) B (hts _ List.mem_cons_self)
  have hS : va_S (gA q [0, 1, 2, 11, 12, 23]) s.heap s.heap [] := va_S.rf
  have hl := lv_entry ([.ref (q 0), .int p1, .ref (q 23)]) (n := 4) (Nat.le_of_ble_eq_true rfl)
  rw [lg_entry_eq]
  generalize (lg_sl ([.ref (q 0), .int p1, .ref (q 23)]) ++ List.replicate (4 - (lg_sl ([.ref (q 0), .int p1, .ref (q 23)])).length) Slot.unset).toArray = ls at hl ⊢
  have hl : lv_has ls 4 [(0, .ref (q 0)), (1, .int p1), (2, .ref (q 23))] := hl
  have hDm : ∀ (z0 : Int32) (z1 : (Nat → Int32)) (z2 : (Nat → Int32)) (z3 : (Nat → Int64)), va_D (gA q [0, 1, 2, 11, 12, 23]) (w_0_1_2_11_12_23 q cI cJ cD z0 z1 z2 z3) := fun _ _ _ _ => gD_of hq [0, 1, 2, 11, 12, 23] rfl rfl rfl (fun k h => ⟨k, h, rfl⟩)
  unfold fL_rankOf at hf
  refine lv_aload_n hx hb dL_rankOf_0 rfl (lv_at hl 2 rfl) ?_
  refine lv_iconst (v := (0 : Int32)) hx hb dL_rankOf_1 (by decide) ?_
  refine lv_aload_n hx hb dL_rankOf_2 rfl (lv_at hl 0 rfl) ?_
  refine lv_iload_n hx hb dL_rankOf_3 rfl (lv_at hl 1 rfl) ?_
  rcases bx_some hf with ⟨⟨e4, Ua4⟩, hc, hf⟩ | ⟨⟨r4, Ua4⟩, hc, hf⟩
  · try dsimp only at hf
    refine g_callX (ws' := (w_0_1_2_11_12_23 q cI cJ cD Tn Ta Ua4 Oa)) hq [0, 1, 2, 11, 12, 23] [0, 1, 2, 11, 12] [.inl 0, .inl 1, .inl 2, .inl 3, .inl 4, .inr 5] (vx_runV (As := [.int p1]) (rest := [.int (0 : Int32), .ref (q 23)]) ⟨hx, hb, hml, hown, hts⟩ (kX8_rankOfx l hlt D cI cJ cD sa q hq N Tn Ta Ua p1 e4 Ua4 hc) (cwV 1 hts gL_rankOf_X8_rankOf rfl rfl rfl (by decide +kernel) ⟨(Nat.le_of_ble_eq_true rfl), (Nat.le_of_ble_eq_true rfl)⟩) ⟨gPx_blind, va_recv hE.1 hP (ci := 6) (q0 := 0) rfl rfl, fun U hU hW => ⟨rfl, by rw [hU]; exact hP.sub (ws' := (w_0_1_2_11_12 q cI cJ cD Tn Ta Ua)) [0, 1, 2, 3, 4] rfl, gEv.warm hW hE, gXe.go hW hS (gMono rfl) hXe hU⟩⟩ rfl rfl hl.1 rfl (lv_room (Nat.le_of_ble_eq_true rfl)) dL_rankOf_4 ⟨(Nat.le_of_ble_eq_true rfl), (Nat.le_of_ble_eq_true rfl)⟩) hP hS (gSub rfl) rfl rfl rfl rfl (fun ce q9 H locs hP hS hce hcv hcl => ?_)
    by_cases c_1 : e4 = 0
    · have hf := (if_pos c_1).symm.trans hf
      subst c_1
      refine vx_catch (E := "java/lang/IndexOutOfBoundsException") (name := "java/lang/IndexOutOfBoundsException") hown [] ⟨0, 9, 12, 21⟩ [] htab (fun _ h => nomatch h) rfl (by decide) (hts (.classLink RL 21 "java/lang/IndexOutOfBoundsException") (by decide +kernel)) (va_Nw.use rfl (hXe.1.2.1 "java/lang/IndexOutOfBoundsException" (by decide +kernel))) hce hcv hcl ?_
      refine lv_astore_n (lv' := [(3, .ref q9), (0, .ref (q 0)), (1, .int p1), (2, .ref (q 23))]) hx hb dL_rankOf_12 rfl hl (by decide) rfl (fun ls hl => ?_)
      refine lv_iconst (v := (1 : Int32)) hx hb dL_rankOf_13 (by decide) ?_
      cases hf
      refine W.widen (k := 1) (n := 6) (Nat.le_of_ble_eq_true rfl) (Nat.le_of_ble_eq_true rfl) ?_
      exact W.iret hx hb hr (fun t ht hW => ⟨⟨rfl, by rw [ht]; exact hP⟩, hS.F ht⟩) hS.2.2 dL_rankOf_14
    have hf := (if_neg c_1).symm.trans hf
    exact nomatch hf
  try dsimp only at hf
  refine g_call0 (ws' := (w_0_1_2_11_12_23 q cI cJ cD Tn Ta Ua4 Oa)) (st1 := [.int r4, .int (0 : Int32), .ref (q 23)]) hq [0, 1, 2, 11, 12, 23] [0, 1, 2, 11, 12] [.inl 0, .inl 1, .inl 2, .inl 3, .inl 4, .inr 5] (va_runV (As := [.int p1]) (rest := [.int (0 : Int32), .ref (q 23)]) ⟨hx, hb, hml, hown, hts⟩ (kX8_rankOf l D cI cJ cD q hq N Tn Ta Ua p1 r4 Ua4 hc) (cwV 1 hts gL_rankOf_X8_rankOf rfl rfl rfl (by decide +kernel) ⟨(Nat.le_of_ble_eq_true rfl), (Nat.le_of_ble_eq_true rfl)⟩) ⟨gP_blind, va_recv hE.1 hP (ci := 6) (q0 := 0) rfl rfl, fun U hU hW => ⟨rfl, by rw [hU]; exact hP.sub (ws' := (w_0_1_2_11_12 q cI cJ cD Tn Ta Ua)) [0, 1, 2, 3, 4] rfl, gEv.warm hW hE⟩⟩ rfl rfl hl.1 rfl (lv_room (Nat.le_of_ble_eq_true rfl)) dL_rankOf_4 ⟨Nat.zero_le _, Nat.zero_le _⟩) hP hS (gSub rfl) rfl rfl rfl rfl rfl (fun H locs hP hS => ?_)
  refine lv_i2l (v := (r4).toInt64) hx hb dL_rankOf_7 rfl ?_
  obtain ⟨g_2, hf⟩ := gd_some hf
  refine va_last hx hb hE.1 hP (hDm Tn Ta Ua4 Oa) hS 5 1 rfl rfl (inb_in g_2) dL_rankOf_8 (fun H locs hP _ hS => ?_)
  have hP : va_P D vwCl (w_0_1_2_11_12_23 q cI cJ cD Tn Ta Ua4 (vp_updL Oa ((0 : Int32)).toNatClampNeg ((r4).toInt64))) H := hP
  refine lv_goto (tgt := 15) hx hb dL_rankOf_9 (by decide) ?_
  refine lv_iconst (v := (0 : Int32)) hx hb dL_rankOf_15 (by decide) ?_
  cases hf
  refine W.widen (k := 1) (n := 6) (Nat.le_of_ble_eq_true rfl) (Nat.le_of_ble_eq_true rfl) ?_
  exact W.iret hx hb hr (fun t ht hW => ⟨⟨rfl, by rw [ht]; exact hP⟩, hS.F ht⟩) hS.2.2 dL_rankOf_16
set_option maxHeartbeats 4000000 in
set_option maxRecDepth 100000 in
theorem kL_necklaces (l : Launch) (hlt : l.stackTraces = false) (D : va_G) (cI cJ cD : ClassId) (sa : Nat → Nat) (q : Nat → Nat) (hq : gInj q) (N : Nat) (Oa : (Nat → Int64)) (p1 : Int32) (p2 : Int32) (r0 : Int32) (Oa9 : (Nat → Int64)) (hf : fL_necklaces N Oa p1 p2 = some (r0, Oa9)) : Met l yL_necklaces wsL_necklaces rL_necklacesx (gPx D cI cJ cD sa (gA q [0, 23]) [.ref (q 0), .int p1, .int p2, .ref (q 23)] (w_0_23 q cI cJ cD Oa)) (gQ D (some (.int r0)) (w_0_23 q cI cJ cD Oa9) (gA q [0, 23])) 1 6 (gA q [0, 23]) := by
  refine g_ofWH (cc := cL_necklaces) (maxL := 5) (ret := (some .int)) (hh := [(0, 9, 12, 13)]) (by decide +kernel) rfl ?_
  intro p e s m args below meth c s₁ B hml hv
  obtain ⟨rfl, hP, hE, hXe⟩ := hv
  have hx := B.exec
  have hb := B.bytes
  have hr := B.returns
  have hts := atoms_spec (ws := wsL_necklaces) B.pre
  have hown : s.vm.findClass RL = some m.cls := findClass_of_methodNamed B.named
  have hlocks := B.notSynchronized
  have htab : c.exceptionTable.toList = [⟨0, 9, 12, 13⟩] := vx_table (x := yL_necklaces) B (hts _ List.mem_cons_self)
  have hS : va_S (gA q [0, 23]) s.heap s.heap [] := va_S.rf
  have hl := lv_entry ([.ref (q 0), .int p1, .int p2, .ref (q 23)]) (n := 5) (Nat.le_of_ble_eq_true rfl)
  rw [lg_entry_eq]
  generalize (lg_sl ([.ref (q 0), .int p1, .int p2, .ref (q 23)]) ++ List.replicate (5 - (lg_sl ([.ref (q 0), .int p1, .int p2, .ref (q 23)])).length) Slot.unset).toArray = ls at hl ⊢
  have hl : lv_has ls 5 [(0, .ref (q 0)), (1, .int p1), (2, .int p2), (3, .ref (q 23))] := hl
  have hDm : ∀ (z0 : (Nat → Int64)), va_D (gA q [0, 23]) (w_0_23 q cI cJ cD z0) := fun _ => gD_of hq [0, 23] rfl rfl rfl (fun k h => ⟨k, h, rfl⟩)
  unfold fL_necklaces at hf
  refine lv_aload_n hx hb dL_necklaces_0 rfl (lv_at hl 3 rfl) ?_
  refine lv_iconst (v := (0 : Int32)) hx hb dL_necklaces_1 (by decide) ?_
  refine lv_aload_n hx hb dL_necklaces_2 rfl (lv_at hl 0 rfl) ?_
  refine lv_iload_n hx hb dL_necklaces_3 rfl (lv_at hl 1 rfl) ?_
  refine lv_iload_n hx hb dL_necklaces_4 rfl (lv_at hl 2 rfl) ?_
  rcases bx_some hf with ⟨e5, hc, hf⟩ | ⟨r5, hc, hf⟩
  · try dsimp only at hf
    refine g_callX (ws' := (w_0_23 q cI cJ cD Oa)) hq [0, 23] [0] [.inl 0, .inr 1] (vx_runV (As := [.int p1, .int p2]) (rest := [.int (0 : Int32), .ref (q 23)]) ⟨hx, hb, hml, hown, hts⟩ (kX8_necklacesx l hlt D cI cJ cD sa q hq N p1 p2 e5 hc) (cwV 2 hts gL_necklaces_X8_necklaces rfl rfl rfl (by decide +kernel) ⟨(Nat.le_of_ble_eq_true rfl), (Nat.le_of_ble_eq_true rfl)⟩) ⟨gPx_blind, va_recv hE.1 hP (ci := 6) (q0 := 0) rfl rfl, fun U hU hW => ⟨rfl, by rw [hU]; exact hP.sub (ws' := (w_0 q cI cJ cD)) [0] rfl, gEv.warm hW hE, gXe.go hW hS (gMono rfl) hXe hU⟩⟩ rfl rfl hl.1 rfl (lv_room (Nat.le_of_ble_eq_true rfl)) dL_necklaces_5 ⟨(Nat.le_of_ble_eq_true rfl), (Nat.le_of_ble_eq_true rfl)⟩) hP hS (gSub rfl) rfl rfl rfl rfl (fun ce q9 H locs hP hS hce hcv hcl => ?_)
    by_cases c_1 : e5 = 1
    · have hf := (if_pos c_1).symm.trans hf
      subst c_1
      refine vx_catch (E := "java/lang/IllegalArgumentException") (name := "java/lang/IllegalArgumentException") hown [] ⟨0, 9, 12, 13⟩ [] htab (fun _ h => nomatch h) rfl (by decide) (hts (.classLink RL 13 "java/lang/IllegalArgumentException") (by decide +kernel)) (va_Nw.use rfl (hXe.1.2.1 "java/lang/IllegalArgumentException" (by decide +kernel))) hce hcv hcl ?_
      refine lv_astore (lv' := [(4, .ref q9), (0, .ref (q 0)), (1, .int p1), (2, .int p2), (3, .ref (q 23))]) hx hb dL_necklaces_12 hl (by decide) rfl (fun ls hl => ?_)
      refine lv_iconst (v := (1 : Int32)) hx hb dL_necklaces_14 (by decide) ?_
      cases hf
      refine W.widen (k := 1) (n := 6) (Nat.le_of_ble_eq_true rfl) (Nat.le_of_ble_eq_true rfl) ?_
      exact W.iret hx hb hr (fun t ht hW => ⟨⟨rfl, by rw [ht]; exact hP⟩, hS.F ht⟩) hS.2.2 dL_necklaces_15
    have hf := (if_neg c_1).symm.trans hf
    exact nomatch hf
  try dsimp only at hf
  refine g_call0 (ws' := (w_0_23 q cI cJ cD Oa)) (st1 := [.long r5, .int (0 : Int32), .ref (q 23)]) hq [0, 23] [0] [.inl 0, .inr 1] (va_runV (As := [.int p1, .int p2]) (rest := [.int (0 : Int32), .ref (q 23)]) ⟨hx, hb, hml, hown, hts⟩ (kX8_necklaces l D cI cJ cD q hq N p1 p2 r5 hc) (cwV 2 hts gL_necklaces_X8_necklaces rfl rfl rfl (by decide +kernel) ⟨(Nat.le_of_ble_eq_true rfl), (Nat.le_of_ble_eq_true rfl)⟩) ⟨gP_blind, va_recv hE.1 hP (ci := 6) (q0 := 0) rfl rfl, fun U hU hW => ⟨rfl, by rw [hU]; exact hP.sub (ws' := (w_0 q cI cJ cD)) [0] rfl, gEv.warm hW hE⟩⟩ rfl rfl hl.1 rfl (lv_room (Nat.le_of_ble_eq_true rfl)) dL_necklaces_5 ⟨Nat.zero_le _, Nat.zero_le _⟩) hP hS (gSub rfl) rfl rfl rfl rfl rfl (fun H locs hP hS => ?_)
  obtain ⟨g_2, hf⟩ := gd_some hf
  refine va_last hx hb hE.1 hP (hDm Oa) hS 1 1 rfl rfl (inb_in g_2) dL_necklaces_8 (fun H locs hP _ hS => ?_)
  have hP : va_P D vwCl (w_0_23 q cI cJ cD (vp_updL Oa ((0 : Int32)).toNatClampNeg r5)) H := hP
  refine lv_goto (tgt := 16) hx hb dL_necklaces_9 (by decide) ?_
  refine lv_iconst (v := (0 : Int32)) hx hb dL_necklaces_16 (by decide) ?_
  cases hf
  refine W.widen (k := 1) (n := 6) (Nat.le_of_ble_eq_true rfl) (Nat.le_of_ble_eq_true rfl) ?_
  exact W.iret hx hb hr (fun t ht hW => ⟨⟨rfl, by rw [ht]; exact hP⟩, hS.F ht⟩) hS.2.2 dL_necklaces_17
set_option maxHeartbeats 4000000 in
set_option maxRecDepth 100000 in
theorem kL_lyndonWords (l : Launch) (hlt : l.stackTraces = false) (D : va_G) (cI cJ cD : ClassId) (sa : Nat → Nat) (q : Nat → Nat) (hq : gInj q) (N : Nat) (Oa : (Nat → Int64)) (p1 : Int32) (p2 : Int32) (r0 : Int32) (Oa9 : (Nat → Int64)) (hf : fL_lyndonWords N Oa p1 p2 = some (r0, Oa9)) : Met l yL_lyndonWords wsL_lyndonWords rL_lyndonWordsx (gPx D cI cJ cD sa (gA q [0, 23]) [.ref (q 0), .int p1, .int p2, .ref (q 23)] (w_0_23 q cI cJ cD Oa)) (gQ D (some (.int r0)) (w_0_23 q cI cJ cD Oa9) (gA q [0, 23])) 1 6 (gA q [0, 23]) := by
  refine g_ofWH (cc := cL_lyndonWords) (maxL := 5) (ret := (some .int)) (hh := [(0, 9, 12, 13)]) (by decide +kernel) rfl ?_
  intro p e s m args below meth c s₁ B hml hv
  obtain ⟨rfl, hP, hE, hXe⟩ := hv
  have hx := B.exec
  have hb := B.bytes
  have hr := B.returns
  have hts := atoms_spec (ws := wsL_lyndonWords) B.pre
  have hown : s.vm.findClass RL = some m.cls := findClass_of_methodNamed B.named
  have hlocks := B.notSynchronized
  have htab : c.exceptionTable.toList = [⟨0, 9, 12, 13⟩] := vx_table (x := yL_lyndonWords) B (hts _ List.mem_cons_self)
  have hS : va_S (gA q [0, 23]) s.heap s.heap [] := va_S.rf
  have hl := lv_entry ([.ref (q 0), .int p1, .int p2, .ref (q 23)]) (n := 5) (Nat.le_of_ble_eq_true rfl)
  rw [lg_entry_eq]
  generalize (lg_sl ([.ref (q 0), .int p1, .int p2, .ref (q 23)]) ++ List.replicate (5 - (lg_sl ([.ref (q 0), .int p1, .int p2, .ref (q 23)])).length) Slot.unset).toArray = ls at hl ⊢
  have hl : lv_has ls 5 [(0, .ref (q 0)), (1, .int p1), (2, .int p2), (3, .ref (q 23))] := hl
  have hDm : ∀ (z0 : (Nat → Int64)), va_D (gA q [0, 23]) (w_0_23 q cI cJ cD z0) := fun _ => gD_of hq [0, 23] rfl rfl rfl (fun k h => ⟨k, h, rfl⟩)
  unfold fL_lyndonWords at hf
  refine lv_aload_n hx hb dL_lyndonWords_0 rfl (lv_at hl 3 rfl) ?_
  refine lv_iconst (v := (0 : Int32)) hx hb dL_lyndonWords_1 (by decide) ?_
  refine lv_aload_n hx hb dL_lyndonWords_2 rfl (lv_at hl 0 rfl) ?_
  refine lv_iload_n hx hb dL_lyndonWords_3 rfl (lv_at hl 1 rfl) ?_
  refine lv_iload_n hx hb dL_lyndonWords_4 rfl (lv_at hl 2 rfl) ?_
  rcases bx_some hf with ⟨e5, hc, hf⟩ | ⟨r5, hc, hf⟩
  · try dsimp only at hf
    refine g_callX (ws' := (w_0_23 q cI cJ cD Oa)) hq [0, 23] [0] [.inl 0, .inr 1] (vx_runV (As := [.int p1, .int p2]) (rest := [.int (0 : Int32), .ref (q 23)]) ⟨hx, hb, hml, hown, hts⟩ (kX8_lyndonWordsx l hlt D cI cJ cD sa q hq N p1 p2 e5 hc) (cwV 2 hts gL_lyndonWords_X8_lyndonWords rfl rfl rfl (by decide +kernel) ⟨(Nat.le_of_ble_eq_true rfl), (Nat.le_of_ble_eq_true rfl)⟩) ⟨gPx_blind, va_recv hE.1 hP (ci := 6) (q0 := 0) rfl rfl, fun U hU hW => ⟨rfl, by rw [hU]; exact hP.sub (ws' := (w_0 q cI cJ cD)) [0] rfl, gEv.warm hW hE, gXe.go hW hS (gMono rfl) hXe hU⟩⟩ rfl rfl hl.1 rfl (lv_room (Nat.le_of_ble_eq_true rfl)) dL_lyndonWords_5 ⟨(Nat.le_of_ble_eq_true rfl), (Nat.le_of_ble_eq_true rfl)⟩) hP hS (gSub rfl) rfl rfl rfl rfl (fun ce q9 H locs hP hS hce hcv hcl => ?_)
    by_cases c_1 : e5 = 1
    · have hf := (if_pos c_1).symm.trans hf
      subst c_1
      refine vx_catch (E := "java/lang/IllegalArgumentException") (name := "java/lang/IllegalArgumentException") hown [] ⟨0, 9, 12, 13⟩ [] htab (fun _ h => nomatch h) rfl (by decide) (hts (.classLink RL 13 "java/lang/IllegalArgumentException") (by decide +kernel)) (va_Nw.use rfl (hXe.1.2.1 "java/lang/IllegalArgumentException" (by decide +kernel))) hce hcv hcl ?_
      refine lv_astore (lv' := [(4, .ref q9), (0, .ref (q 0)), (1, .int p1), (2, .int p2), (3, .ref (q 23))]) hx hb dL_lyndonWords_12 hl (by decide) rfl (fun ls hl => ?_)
      refine lv_iconst (v := (1 : Int32)) hx hb dL_lyndonWords_14 (by decide) ?_
      cases hf
      refine W.widen (k := 1) (n := 6) (Nat.le_of_ble_eq_true rfl) (Nat.le_of_ble_eq_true rfl) ?_
      exact W.iret hx hb hr (fun t ht hW => ⟨⟨rfl, by rw [ht]; exact hP⟩, hS.F ht⟩) hS.2.2 dL_lyndonWords_15
    have hf := (if_neg c_1).symm.trans hf
    exact nomatch hf
  try dsimp only at hf
  refine g_call0 (ws' := (w_0_23 q cI cJ cD Oa)) (st1 := [.long r5, .int (0 : Int32), .ref (q 23)]) hq [0, 23] [0] [.inl 0, .inr 1] (va_runV (As := [.int p1, .int p2]) (rest := [.int (0 : Int32), .ref (q 23)]) ⟨hx, hb, hml, hown, hts⟩ (kX8_lyndonWords l D cI cJ cD q hq N p1 p2 r5 hc) (cwV 2 hts gL_lyndonWords_X8_lyndonWords rfl rfl rfl (by decide +kernel) ⟨(Nat.le_of_ble_eq_true rfl), (Nat.le_of_ble_eq_true rfl)⟩) ⟨gP_blind, va_recv hE.1 hP (ci := 6) (q0 := 0) rfl rfl, fun U hU hW => ⟨rfl, by rw [hU]; exact hP.sub (ws' := (w_0 q cI cJ cD)) [0] rfl, gEv.warm hW hE⟩⟩ rfl rfl hl.1 rfl (lv_room (Nat.le_of_ble_eq_true rfl)) dL_lyndonWords_5 ⟨Nat.zero_le _, Nat.zero_le _⟩) hP hS (gSub rfl) rfl rfl rfl rfl rfl (fun H locs hP hS => ?_)
  obtain ⟨g_2, hf⟩ := gd_some hf
  refine va_last hx hb hE.1 hP (hDm Oa) hS 1 1 rfl rfl (inb_in g_2) dL_lyndonWords_8 (fun H locs hP _ hS => ?_)
  have hP : va_P D vwCl (w_0_23 q cI cJ cD (vp_updL Oa ((0 : Int32)).toNatClampNeg r5)) H := hP
  refine lv_goto (tgt := 16) hx hb dL_lyndonWords_9 (by decide) ?_
  refine lv_iconst (v := (0 : Int32)) hx hb dL_lyndonWords_16 (by decide) ?_
  cases hf
  refine W.widen (k := 1) (n := 6) (Nat.le_of_ble_eq_true rfl) (Nat.le_of_ble_eq_true rfl) ?_
  exact W.iret hx hb hr (fun t ht hW => ⟨⟨rfl, by rw [ht]; exact hP⟩, hS.F ht⟩) hS.2.2 dL_lyndonWords_17
set_option maxHeartbeats 4000000 in
set_option maxRecDepth 100000 in
theorem kL_necklaceNumber (l : Launch) (hlt : l.stackTraces = false) (D : va_G) (cI cJ cD : ClassId) (sa : Nat → Nat) (q : Nat → Nat) (hq : gInj q) (N : Nat) (Tn : Int32) (Ta : (Nat → Int32)) (Wg : Int32) (Wz : Int32) (Ww : Int32) (Wr : Int32) (Oa : (Nat → Int64)) (p1 : Int32) (p2 : Int32) (p3 : Int32) (r0 : Int32) (Wg9 : Int32) (Wz9 : Int32) (Ww9 : Int32) (Wr9 : Int32) (Oa9 : (Nat → Int64)) (hf : fL_necklaceNumber N Tn Ta Wg Wz Ww Wr Oa p1 p2 p3 = some (r0, Wg9, Wz9, Ww9, Wr9, Oa9)) : Met l yL_necklaceNumber wsL_necklaceNumber rL_necklaceNumberx (gPx D cI cJ cD sa (gA q [0, 1, 2, 13, 23]) [.ref (q 0), .int p1, .int p2, .int p3, .ref (q 23)] (w_0_1_2_13_23 q cI cJ cD Tn Ta Wg Wz Ww Wr Oa)) (gQ D (some (.int r0)) (w_0_1_2_13_23 q cI cJ cD Tn Ta Wg9 Wz9 Ww9 Wr9 Oa9) (gA q [0, 1, 2, 13, 23])) 1 6 (gA q [0, 1, 2, 13, 23]) := by
  refine g_ofWH (cc := cL_necklaceNumber) (maxL := 6) (ret := (some .int)) (hh := [(0, 12, 15, 21), (0, 12, 19, 13), (0, 12, 23, 15)]) (by decide +kernel) rfl ?_
  intro p e s m args below meth c s₁ B hml hv
  obtain ⟨rfl, hP, hE, hXe⟩ := hv
  have hx := B.exec
  have hb := B.bytes
  have hr := B.returns
  have hts := atoms_spec (ws := wsL_necklaceNumber) B.pre
  have hown : s.vm.findClass RL = some m.cls := findClass_of_methodNamed B.named
  have hlocks := B.notSynchronized
  have htab : c.exceptionTable.toList = [⟨0, 12, 15, 21⟩, ⟨0, 12, 19, 13⟩, ⟨0, 12, 23, 15⟩] := vx_table (x := yL_necklaceNumber) B (hts _ List.mem_cons_self)
  have hS : va_S (gA q [0, 1, 2, 13, 23]) s.heap s.heap [] := va_S.rf
  have hl := lv_entry ([.ref (q 0), .int p1, .int p2, .int p3, .ref (q 23)]) (n := 6) (Nat.le_of_ble_eq_true rfl)
  rw [lg_entry_eq]
  generalize (lg_sl ([.ref (q 0), .int p1, .int p2, .int p3, .ref (q 23)]) ++ List.replicate (6 - (lg_sl ([.ref (q 0), .int p1, .int p2, .int p3, .ref (q 23)])).length) Slot.unset).toArray = ls at hl ⊢
  have hl : lv_has ls 6 [(0, .ref (q 0)), (1, .int p1), (2, .int p2), (3, .int p3), (4, .ref (q 23))] := hl
  have hDm : ∀ (z0 : Int32) (z1 : (Nat → Int32)) (z2 : Int32) (z3 : Int32) (z4 : Int32) (z5 : Int32) (z6 : (Nat → Int64)), va_D (gA q [0, 1, 2, 13, 23]) (w_0_1_2_13_23 q cI cJ cD z0 z1 z2 z3 z4 z5 z6) := fun _ _ _ _ _ _ _ => gD_of hq [0, 1, 2, 13, 23] rfl rfl rfl (fun k h => ⟨k, h, rfl⟩)
  unfold fL_necklaceNumber at hf
  refine lv_aload hx hb dL_necklaceNumber_0 (lv_at hl 4 rfl) ?_
  refine lv_iconst (v := (0 : Int32)) hx hb dL_necklaceNumber_2 (by decide) ?_
  refine lv_aload_n hx hb dL_necklaceNumber_3 rfl (lv_at hl 0 rfl) ?_
  refine lv_iload_n hx hb dL_necklaceNumber_4 rfl (lv_at hl 1 rfl) ?_
  refine lv_iload_n hx hb dL_necklaceNumber_5 rfl (lv_at hl 2 rfl) ?_
  refine lv_iload_n hx hb dL_necklaceNumber_6 rfl (lv_at hl 3 rfl) ?_
  rcases bx_some hf with ⟨⟨e7, Wg7, Wz7, Ww7, Wr7⟩, hc, hf⟩ | ⟨⟨r7, Wg7, Wz7, Ww7, Wr7⟩, hc, hf⟩
  · try dsimp only at hf
    refine g_callX (ws' := (w_0_1_2_13_23 q cI cJ cD Tn Ta Wg7 Wz7 Ww7 Wr7 Oa)) hq [0, 1, 2, 13, 23] [0, 1, 2, 13] [.inl 0, .inl 1, .inl 2, .inl 3, .inr 4] (vx_runV (As := [.int p1, .int p2, .int p3]) (rest := [.int (0 : Int32), .ref (q 23)]) ⟨hx, hb, hml, hown, hts⟩ (kX8_necklaceNumberx l hlt D cI cJ cD sa q hq N Tn Ta Wg Wz Ww Wr p1 p2 p3 e7 Wg7 Wz7 Ww7 Wr7 hc) (cwV 3 hts gL_necklaceNumber_X8_necklaceNumber rfl rfl rfl (by decide +kernel) ⟨(Nat.le_of_ble_eq_true rfl), (Nat.le_of_ble_eq_true rfl)⟩) ⟨gPx_blind, va_recv hE.1 hP (ci := 6) (q0 := 0) rfl rfl, fun U hU hW => ⟨rfl, by rw [hU]; exact hP.sub (ws' := (w_0_1_2_13 q cI cJ cD Tn Ta Wg Wz Ww Wr)) [0, 1, 2, 3] rfl, gEv.warm hW hE, gXe.go hW hS (gMono rfl) hXe hU⟩⟩ rfl rfl hl.1 rfl (lv_room (Nat.le_of_ble_eq_true rfl)) dL_necklaceNumber_7 ⟨(Nat.le_of_ble_eq_true rfl), (Nat.le_of_ble_eq_true rfl)⟩) hP hS (gSub rfl) rfl rfl rfl rfl (fun ce q9 H locs hP hS hce hcv hcl => ?_)
    by_cases c_1 : e7 = 0
    · have hf := (if_pos c_1).symm.trans hf
      subst c_1
      refine vx_catch (E := "java/lang/IndexOutOfBoundsException") (name := "java/lang/IndexOutOfBoundsException") hown [] ⟨0, 12, 15, 21⟩ [⟨0, 12, 19, 13⟩, ⟨0, 12, 23, 15⟩] htab (fun _ h => nomatch h) rfl (by decide) (hts (.classLink RL 21 "java/lang/IndexOutOfBoundsException") (by decide +kernel)) (va_Nw.use rfl (hXe.1.2.1 "java/lang/IndexOutOfBoundsException" (by decide +kernel))) hce hcv hcl ?_
      refine lv_astore (lv' := [(5, .ref q9), (0, .ref (q 0)), (1, .int p1), (2, .int p2), (3, .int p3), (4, .ref (q 23))]) hx hb dL_necklaceNumber_15 hl (by decide) rfl (fun ls hl => ?_)
      refine lv_iconst (v := (1 : Int32)) hx hb dL_necklaceNumber_17 (by decide) ?_
      cases hf
      refine W.widen (k := 1) (n := 6) (Nat.le_of_ble_eq_true rfl) (Nat.le_of_ble_eq_true rfl) ?_
      exact W.iret hx hb hr (fun t ht hW => ⟨⟨rfl, by rw [ht]; exact hP⟩, hS.F ht⟩) hS.2.2 dL_necklaceNumber_18
    have hf := (if_neg c_1).symm.trans hf
    by_cases c_2 : e7 = 1
    · have hf := (if_pos c_2).symm.trans hf
      subst c_2
      refine vx_catch (E := "java/lang/IllegalArgumentException") (name := "java/lang/IllegalArgumentException") hown [⟨0, 12, 15, 21⟩] ⟨0, 12, 19, 13⟩ [⟨0, 12, 23, 15⟩] htab (List.forall_mem_cons.mpr ⟨Or.inr ⟨by decide, "java/lang/IndexOutOfBoundsException", hts (.classLink RL 21 "java/lang/IndexOutOfBoundsException") (by decide +kernel), hXe.1.2.2.1 "java/lang/IllegalArgumentException" (by decide +kernel) "java/lang/IndexOutOfBoundsException" (by decide +kernel) (by decide +kernel)⟩, fun _ h => nomatch h⟩) rfl (by decide) (hts (.classLink RL 13 "java/lang/IllegalArgumentException") (by decide +kernel)) (va_Nw.use rfl (hXe.1.2.1 "java/lang/IllegalArgumentException" (by decide +kernel))) hce hcv hcl ?_
      refine lv_astore (lv' := [(5, .ref q9), (0, .ref (q 0)), (1, .int p1), (2, .int p2), (3, .int p3), (4, .ref (q 23))]) hx hb dL_necklaceNumber_19 hl (by decide) rfl (fun ls hl => ?_)
      refine lv_iconst (v := (2 : Int32)) hx hb dL_necklaceNumber_21 (by decide) ?_
      cases hf
      refine W.widen (k := 1) (n := 6) (Nat.le_of_ble_eq_true rfl) (Nat.le_of_ble_eq_true rfl) ?_
      exact W.iret hx hb hr (fun t ht hW => ⟨⟨rfl, by rw [ht]; exact hP⟩, hS.F ht⟩) hS.2.2 dL_necklaceNumber_22
    have hf := (if_neg c_2).symm.trans hf
    by_cases c_3 : e7 = 2
    · have hf := (if_pos c_3).symm.trans hf
      subst c_3
      refine vx_catch (E := "java/lang/IllegalStateException") (name := "java/lang/IllegalStateException") hown [⟨0, 12, 15, 21⟩, ⟨0, 12, 19, 13⟩] ⟨0, 12, 23, 15⟩ [] htab (List.forall_mem_cons.mpr ⟨Or.inr ⟨by decide, "java/lang/IndexOutOfBoundsException", hts (.classLink RL 21 "java/lang/IndexOutOfBoundsException") (by decide +kernel), hXe.1.2.2.1 "java/lang/IllegalStateException" (by decide +kernel) "java/lang/IndexOutOfBoundsException" (by decide +kernel) (by decide +kernel)⟩, List.forall_mem_cons.mpr ⟨Or.inr ⟨by decide, "java/lang/IllegalArgumentException", hts (.classLink RL 13 "java/lang/IllegalArgumentException") (by decide +kernel), hXe.1.2.2.1 "java/lang/IllegalStateException" (by decide +kernel) "java/lang/IllegalArgumentException" (by decide +kernel) (by decide +kernel)⟩, fun _ h => nomatch h⟩⟩) rfl (by decide) (hts (.classLink RL 15 "java/lang/IllegalStateException") (by decide +kernel)) (va_Nw.use rfl (hXe.1.2.1 "java/lang/IllegalStateException" (by decide +kernel))) hce hcv hcl ?_
      refine lv_astore (lv' := [(5, .ref q9), (0, .ref (q 0)), (1, .int p1), (2, .int p2), (3, .int p3), (4, .ref (q 23))]) hx hb dL_necklaceNumber_23 hl (by decide) rfl (fun ls hl => ?_)
      refine lv_iconst (v := (3 : Int32)) hx hb dL_necklaceNumber_25 (by decide) ?_
      cases hf
      refine W.widen (k := 1) (n := 6) (Nat.le_of_ble_eq_true rfl) (Nat.le_of_ble_eq_true rfl) ?_
      exact W.iret hx hb hr (fun t ht hW => ⟨⟨rfl, by rw [ht]; exact hP⟩, hS.F ht⟩) hS.2.2 dL_necklaceNumber_26
    have hf := (if_neg c_3).symm.trans hf
    exact nomatch hf
  try dsimp only at hf
  refine g_call0 (ws' := (w_0_1_2_13_23 q cI cJ cD Tn Ta Wg7 Wz7 Ww7 Wr7 Oa)) (st1 := [.int r7, .int (0 : Int32), .ref (q 23)]) hq [0, 1, 2, 13, 23] [0, 1, 2, 13] [.inl 0, .inl 1, .inl 2, .inl 3, .inr 4] (va_runV (As := [.int p1, .int p2, .int p3]) (rest := [.int (0 : Int32), .ref (q 23)]) ⟨hx, hb, hml, hown, hts⟩ (kX8_necklaceNumber l D cI cJ cD q hq N Tn Ta Wg Wz Ww Wr p1 p2 p3 r7 Wg7 Wz7 Ww7 Wr7 hc) (cwV 3 hts gL_necklaceNumber_X8_necklaceNumber rfl rfl rfl (by decide +kernel) ⟨(Nat.le_of_ble_eq_true rfl), (Nat.le_of_ble_eq_true rfl)⟩) ⟨gP_blind, va_recv hE.1 hP (ci := 6) (q0 := 0) rfl rfl, fun U hU hW => ⟨rfl, by rw [hU]; exact hP.sub (ws' := (w_0_1_2_13 q cI cJ cD Tn Ta Wg Wz Ww Wr)) [0, 1, 2, 3] rfl, gEv.warm hW hE⟩⟩ rfl rfl hl.1 rfl (lv_room (Nat.le_of_ble_eq_true rfl)) dL_necklaceNumber_7 ⟨Nat.zero_le _, Nat.zero_le _⟩) hP hS (gSub rfl) rfl rfl rfl rfl rfl (fun H locs hP hS => ?_)
  refine lv_i2l (v := (r7).toInt64) hx hb dL_necklaceNumber_10 rfl ?_
  obtain ⟨g_4, hf⟩ := gd_some hf
  refine va_last hx hb hE.1 hP (hDm Tn Ta Wg7 Wz7 Ww7 Wr7 Oa) hS 4 1 rfl rfl (inb_in g_4) dL_necklaceNumber_11 (fun H locs hP _ hS => ?_)
  have hP : va_P D vwCl (w_0_1_2_13_23 q cI cJ cD Tn Ta Wg7 Wz7 Ww7 Wr7 (vp_updL Oa ((0 : Int32)).toNatClampNeg ((r7).toInt64))) H := hP
  refine lv_goto (tgt := 27) hx hb dL_necklaceNumber_12 (by decide) ?_
  refine lv_iconst (v := (0 : Int32)) hx hb dL_necklaceNumber_27 (by decide) ?_
  cases hf
  refine W.widen (k := 1) (n := 6) (Nat.le_of_ble_eq_true rfl) (Nat.le_of_ble_eq_true rfl) ?_
  exact W.iret hx hb hr (fun t ht hW => ⟨⟨rfl, by rw [ht]; exact hP⟩, hS.F ht⟩) hS.2.2 dL_necklaceNumber_28
