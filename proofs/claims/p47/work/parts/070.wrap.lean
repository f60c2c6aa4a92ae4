/-! the script's cell, read by a method of the law -/
def gPs (b L : Nat) (xs : Nat → Int32) (av : List Value) : Array Value → State → Prop := va_Pc av (fun U => b < U.heap.size ∧ va_X b L xs U U.heap)
theorem gPs_blind {b L : Nat} {xs : Nat → Int32} {av : List Value} : FrameBlind (gPs b L xs av) := fun a U g mk h => ⟨h.1, h.2.1, va_X.moved (u := U) (Vm.Alike.refl U.vm) h.2.2⟩
theorem gPs_of {b L : Nat} {xs : Nat → Int32} {A : Nat → Prop} {H0 H : Heap} {locs : List Loc} {s U : State} (hU : U.heap = H) (hW : s.WarmedH U.vm) (hX : va_X b L xs s H0) (hbl : b < H0.size) (hbA : ¬ A b) (hS : va_S A H0 H locs) : b < U.heap.size ∧ va_X b L xs U U.heap := by
  rw [hU]
  exact ⟨Nat.lt_of_lt_of_le hbl hS.1, va_X.moved hW.alike (hX.kept (hS.2.1 b hbl hbA))⟩
def fL_cell (N L : Nat) (xs : Nat → Int32) (p1 : Int32) : Option Int32 :=
  if Int32.ofNat L ≤ p1 then some (((7919 : Int32) * (p1 + (17 : Int32))) * (p1 + (2039 : Int32)))
  else gd (inb p1 L) (some (xs (p1).toNatClampNeg))
abbrev rL_cell : Room := { frames := 0, cells := 0, slots := 0, locals := 0 }
set_option maxHeartbeats 4000000 in
set_option maxRecDepth 100000 in
theorem kL_cell (l : Launch) (D : va_G) (q : Nat → Nat) (b L : Nat) (xs : Nat → Int32) (p1 r0 : Int32) {N : Nat} (hf : fL_cell N L xs p1 = some r0) : Met l yL_cell wsL_cell rL_cell (gPs b L xs [.ref b, .int p1]) (gQ D (some (.int r0)) [] (gA q [])) 0 0 (gA q []) := by
  refine Met.ofW (cc := cL_cell) (maxL := 2) (ret := (some .int)) (by decide +kernel) rfl ?_
  intro p e s m args below meth c s₁ B hml hv
  obtain ⟨rfl, hbl, hX⟩ := hv
  have hx := B.exec
  have hb := B.bytes
  have hr := B.returns
  have hS : va_S (gA q []) s.heap s.heap [] := va_S.rf
  have hP : va_P D vwCl [] s.heap := fun k q h => by simp at h
  have hbA : ¬ gA q [] b := fun h => by obtain ⟨k, h1, -⟩ := h; simp at h1
  have hl := lv_entry ([.ref b, .int p1]) (n := 2) (Nat.le_of_ble_eq_true rfl)
  rw [lg_entry_eq]
  generalize (lg_sl ([.ref b, .int p1]) ++ List.replicate (2 - (lg_sl ([.ref b, .int p1])).length) Slot.unset).toArray = ls at hl ⊢
  have hl : lv_has ls 2 [(0, .ref b), (1, .int p1)] := hl
  unfold fL_cell at hf
  refine lv_iload_n hx hb dL_cell_0 rfl (lv_at hl 1 rfl) ?_
  refine lv_aload_n hx hb dL_cell_1 rfl (lv_at hl 0 rfl) ?_
  refine va_slen hx hb hX hbl hbA hS dL_cell_2 ?_
  refine lv_icmp_ge (tgt := 12) hx hb dL_cell_3 (by decide) (fun c_1 => ?_) (fun c_1 => ?_)
  · have hf := (if_pos c_1).symm.trans hf
    refine lv_sipush (v := (7919 : Int32)) hx hb dL_cell_12 (by decide) ?_
    refine lv_iload_n hx hb dL_cell_15 rfl (lv_at hl 1 rfl) ?_
    refine lv_bipush (v := (17 : Int32)) hx hb dL_cell_16 (by decide) ?_
    refine lv_iadd hx hb dL_cell_18 ?_
    refine lv_imul hx hb dL_cell_19 ?_
    refine lv_iload_n hx hb dL_cell_20 rfl (lv_at hl 1 rfl) ?_
    refine lv_sipush (v := (2039 : Int32)) hx hb dL_cell_21 (by decide) ?_
    refine lv_iadd hx hb dL_cell_24 ?_
    refine lv_imul hx hb dL_cell_25 ?_
    cases hf
    exact W.iret hx hb hr (fun t ht hW => ⟨⟨rfl, by rw [ht]; exact hP⟩, hS.F ht⟩) hS.2.2 dL_cell_26
  · have hf := (if_neg c_1).symm.trans hf
    refine lv_aload_n hx hb dL_cell_6 rfl (lv_at hl 0 rfl) ?_
    refine lv_iload_n hx hb dL_cell_7 rfl (lv_at hl 1 rfl) ?_
    obtain ⟨g_1, hf⟩ := gd_some hf
    refine va_sld hx hb hX hbl hbA hS (inb_in g_1) dL_cell_8 ?_
    refine lv_goto (tgt := 26) hx hb dL_cell_9 (by decide) ?_
    cases hf
    exact W.iret hx hb hr (fun t ht hW => ⟨⟨rfl, by rw [ht]; exact hP⟩, hS.F ht⟩) hS.2.2 dL_cell_26
set_option maxHeartbeats 4000000 in
set_option maxRecDepth 100000 in
theorem kL_low (l : Launch) (D : va_G) (cI cJ cD : ClassId) (q : Nat → Nat) (hq : gInj 14 q) (N : Nat) (p0 : Int32) (p1 : Int32) (r0 : Int32) (hf : fL_low N p0 p1 = some r0) : Met l yL_low wsL_low rL_low (gP D cI cJ cD [.int p0, .int p1] (w_0none q cI cJ cD)) (gQ D (some (.int r0)) (w_0none q cI cJ cD) (gA q [])) 0 0 (gA q []) := by
  refine Met.ofW (cc := cL_low) (maxL := 2) (ret := (some .int)) (by decide +kernel) rfl ?_
  intro p e s m args below meth c s₁ B hml hv
  obtain ⟨rfl, hP, hE⟩ := hv
  have hx := B.exec
  have hb := B.bytes
  have hr := B.returns
  have hts := atoms_spec (ws := wsL_low) B.pre
  have hown : s.vm.findClass RL = some m.cls := findClass_of_methodNamed B.named
  have hlocks := B.notSynchronized
  have hS : va_S (gA q []) s.heap s.heap [] := va_S.rf
  have hl := lv_entry ([.int p0, .int p1]) (n := 2) (Nat.le_of_ble_eq_true rfl)
  rw [lg_entry_eq]
  generalize (lg_sl ([.int p0, .int p1]) ++ List.replicate (2 - (lg_sl ([.int p0, .int p1])).length) Slot.unset).toArray = ls at hl ⊢
  have hl : lv_has ls 2 [(0, .int p0), (1, .int p1)] := hl
  unfold fL_low at hf
  refine lv_iload_n hx hb dL_low_0 rfl (lv_at hl 0 rfl) ?_
  refine lv_ldc (v := (2147483647 : Int32)) hx hb hown (hts (.constant RL 7 (2147483647 : Int32)) (by decide +kernel)) dL_low_1 ?_
  refine lv_iand hx hb dL_low_3 ?_
  refine lv_iload_n hx hb dL_low_4 rfl (lv_at hl 1 rfl) ?_
  obtain ⟨g_1, hf⟩ := gd_some hf
  refine lv_irem hx hb dL_low_5 (nz_ne g_1) ?_
  cases hf
  exact W.iret hx hb hr (fun t ht hW => ⟨⟨rfl, by rw [ht]; exact hP⟩, hS.F ht⟩) hS.2.2 dL_low_6
set_option maxHeartbeats 4000000 in
set_option maxRecDepth 100000 in
theorem kL_append (l : Launch) (hlt : l.stackTraces = false) (D : va_G) (cI cJ cD : ClassId) (sa : Nat → Nat) (q : Nat → Nat) (hq : gInj 14 q) (N : Nat) (Tn : Int32) (Ta : (Nat → Int32)) (p1 : Int32) (r0 : Int32) (Tn9 : Int32) (Ta9 : (Nat → Int32)) (hf : fL_append N Tn Ta p1 = some (r0, Tn9, Ta9)) : Met l yL_append wsL_append rL_appendx (gPx D cI cJ cD sa (gA q [0, 1, 2]) [.ref (q 0), .int p1] (w_0_1_2 q cI cJ cD Tn Ta)) (gQ D (some (.int r0)) (w_0_1_2 q cI cJ cD Tn9 Ta9) (gA q [0, 1, 2])) 1 6 (gA q [0, 1, 2]) := by
  refine g_ofWH (cc := cL_append) (maxL := 3) (ret := (some .int)) (hh := [(0, 5, 6, 14), (0, 5, 10, 17)]) (by decide +kernel) rfl ?_
  intro p e s m args below meth c s₁ B hml hv
  obtain ⟨rfl, hP, hE, hXe⟩ := hv
  have hx := B.exec
  have hb := B.bytes
  have hr := B.returns
  have hts := atoms_spec (ws := wsL_append) B.pre
  have hown : s.vm.findClass RL = some m.cls := findClass_of_methodNamed B.named
  have hlocks := B.notSynchronized
  have htab : c.exceptionTable.toList = [⟨0, 5, 6, 14⟩, ⟨0, 5, 10, 17⟩] := vx_table (x := yL_append) B (hts _ List.mem_cons_self)
  have hS : va_S (gA q [0, 1, 2]) s.heap s.heap [] := va_S.rf
  have hl := lv_entry ([.ref (q 0), .int p1]) (n := 3) (Nat.le_of_ble_eq_true rfl)
  rw [lg_entry_eq]
  generalize (lg_sl ([.ref (q 0), .int p1]) ++ List.replicate (3 - (lg_sl ([.ref (q 0), .int p1])).length) Slot.unset).toArray = ls at hl ⊢
  have hl : lv_has ls 3 [(0, .ref (q 0)), (1, .int p1)] := hl
  unfold fL_append at hf
  refine lv_aload_n hx hb dL_append_0 rfl (lv_at hl 0 rfl) ?_
  refine lv_iload_n hx hb dL_append_1 rfl (lv_at hl 1 rfl) ?_
  rcases bx_some hf with ⟨⟨e2, Tn2, Ta2⟩, hc, hf⟩ | ⟨⟨r2, Tn2, Ta2⟩, hc, hf⟩
  · try dsimp only at hf
    refine g_callX (ws' := (w_0_1_2 q cI cJ cD Tn2 Ta2)) hq [0, 1, 2] [0, 1, 2] [.inl 0, .inl 1, .inl 2] (vx_runV (As := [.int p1]) (rest := []) ⟨hx, hb, hml, hown, hts⟩ (kX8_appendx l hlt D cI cJ cD sa q hq N Tn Ta p1 e2 Tn2 Ta2 hc) (cwV 1 hts gL_append_X8_append rfl rfl rfl (by decide +kernel) ⟨(Nat.le_of_ble_eq_true rfl), (Nat.le_of_ble_eq_true rfl)⟩) ⟨gPx_blind, va_recv hE.1 hP (ci := 6) (q0 := 0) rfl rfl, fun U hU hW => ⟨rfl, by rw [hU]; exact hP.sub (ws' := (w_0_1_2 q cI cJ cD Tn Ta)) [0, 1, 2] rfl, gEv.warm hW hE, gXe.go hW hS (gMono rfl) hXe hU⟩⟩ rfl rfl hl.1 rfl (lv_room (Nat.le_of_ble_eq_true rfl)) dL_append_2 ⟨(Nat.le_of_ble_eq_true rfl), (Nat.le_of_ble_eq_true rfl)⟩) hP hS (gSub rfl) rfl rfl rfl rfl (fun ce q9 H locs hP hS hce hcv hcl => ?_)
    by_cases c_1 : e2 = 1
    · have hf := (if_pos c_1).symm.trans hf
      subst c_1
      refine vx_catch (E := "java/lang/IllegalArgumentException") (name := "java/lang/IllegalArgumentException") hown [] ⟨0, 5, 6, 14⟩ [⟨0, 5, 10, 17⟩] htab (fun _ h => nomatch h) rfl (by decide) (hts (.classLink RL 14 "java/lang/IllegalArgumentException") (by decide +kernel)) (va_Nw.use rfl (hXe.1.2.1 "java/lang/IllegalArgumentException" (by decide +kernel))) hce hcv hcl ?_
      refine lv_astore_n (lv' := [(2, .ref q9), (0, .ref (q 0)), (1, .int p1)]) hx hb dL_append_6 rfl hl (by decide) rfl (fun ls hl => ?_)
      refine lv_ldc (v := (-99999 : Int32)) hx hb hown (hts (.constant RL 16 (-99999 : Int32)) (by decide +kernel)) dL_append_7 ?_
      cases hf
      refine W.widen (k := 1) (n := 6) (Nat.le_of_ble_eq_true rfl) (Nat.le_of_ble_eq_true rfl) ?_
      exact W.iret hx hb hr (fun t ht hW => ⟨⟨rfl, by rw [ht]; exact hP⟩, hS.F ht⟩) hS.2.2 dL_append_9
    have hf := (if_neg c_1).symm.trans hf
    by_cases c_2 : e2 = 2
    · have hf := (if_pos c_2).symm.trans hf
      subst c_2
      refine vx_catch (E := "java/lang/IllegalStateException") (name := "java/lang/IllegalStateException") hown [⟨0, 5, 6, 14⟩] ⟨0, 5, 10, 17⟩ [] htab (List.forall_mem_cons.mpr ⟨Or.inr ⟨by decide, "java/lang/IllegalArgumentException", hts (.classLink RL 14 "java/lang/IllegalArgumentException") (by decide +kernel), hXe.1.2.2.1 "java/lang/IllegalStateException" (by decide +kernel) "java/lang/IllegalArgumentException" (by decide +kernel) (by decide +kernel)⟩, fun _ h => nomatch h⟩) rfl (by decide) (hts (.classLink RL 17 "java/lang/IllegalStateException") (by decide +kernel)) (va_Nw.use rfl (hXe.1.2.1 "java/lang/IllegalStateException" (by decide +kernel))) hce hcv hcl ?_
      refine lv_astore_n (lv' := [(2, .ref q9), (0, .ref (q 0)), (1, .int p1)]) hx hb dL_append_10 rfl hl (by decide) rfl (fun ls hl => ?_)
      refine lv_ldc (v := (-99999 : Int32)) hx hb hown (hts (.constant RL 16 (-99999 : Int32)) (by decide +kernel)) dL_append_11 ?_
      cases hf
      refine W.widen (k := 1) (n := 6) (Nat.le_of_ble_eq_true rfl) (Nat.le_of_ble_eq_true rfl) ?_
      exact W.iret hx hb hr (fun t ht hW => ⟨⟨rfl, by rw [ht]; exact hP⟩, hS.F ht⟩) hS.2.2 dL_append_13
    have hf := (if_neg c_2).symm.trans hf
    exact nomatch hf
  try dsimp only at hf
  refine g_call0 (ws' := (w_0_1_2 q cI cJ cD Tn2 Ta2)) (st1 := [.int r2]) hq [0, 1, 2] [0, 1, 2] [.inl 0, .inl 1, .inl 2] (va_runV (As := [.int p1]) (rest := []) ⟨hx, hb, hml, hown, hts⟩ (kX8_append l D cI cJ cD q hq N Tn Ta p1 r2 Tn2 Ta2 hc) (cwV 1 hts gL_append_X8_append rfl rfl rfl (by decide +kernel) ⟨(Nat.le_of_ble_eq_true rfl), (Nat.le_of_ble_eq_true rfl)⟩) ⟨gP_blind, va_recv hE.1 hP (ci := 6) (q0 := 0) rfl rfl, fun U hU hW => ⟨rfl, by rw [hU]; exact hP.sub (ws' := (w_0_1_2 q cI cJ cD Tn Ta)) [0, 1, 2] rfl, gEv.warm hW hE⟩⟩ rfl rfl hl.1 rfl (lv_room (Nat.le_of_ble_eq_true rfl)) dL_append_2 ⟨Nat.zero_le _, Nat.zero_le _⟩) hP hS (gSub rfl) rfl rfl rfl rfl rfl (fun H locs hP hS => ?_)
  cases hf
  refine W.widen (k := 1) (n := 6) (Nat.le_of_ble_eq_true rfl) (Nat.le_of_ble_eq_true rfl) ?_
  exact W.iret hx hb hr (fun t ht hW => ⟨⟨rfl, by rw [ht]; exact hP⟩, hS.F ht⟩) hS.2.2 dL_append_5
set_option maxHeartbeats 4000000 in
set_option maxRecDepth 100000 in
theorem kL_insert (l : Launch) (hlt : l.stackTraces = false) (D : va_G) (cI cJ cD : ClassId) (sa : Nat → Nat) (q : Nat → Nat) (hq : gInj 14 q) (N : Nat) (Tn : Int32) (Ta : (Nat → Int32)) (p1 : Int32) (p2 : Int32) (r0 : Int32) (Tn9 : Int32) (Ta9 : (Nat → Int32)) (hf : fL_insert N Tn Ta p1 p2 = some (r0, Tn9, Ta9)) : Met l yL_insert wsL_insert rL_insertx (gPx D cI cJ cD sa (gA q [0, 1, 2]) [.ref (q 0), .int p1, .int p2] (w_0_1_2 q cI cJ cD Tn Ta)) (gQ D (some (.int r0)) (w_0_1_2 q cI cJ cD Tn9 Ta9) (gA q [0, 1, 2])) 1 6 (gA q [0, 1, 2]) := by
  refine g_ofWH (cc := cL_insert) (maxL := 4) (ret := (some .int)) (hh := [(0, 6, 7, 23), (0, 6, 11, 14), (0, 6, 15, 17)]) (by decide +kernel) rfl ?_
  intro p e s m args below meth c s₁ B hml hv
  obtain ⟨rfl, hP, hE, hXe⟩ := hv
  have hx := B.exec
  have hb := B.bytes
  have hr := B.returns
  have hts := atoms_spec (ws := wsL_insert) B.pre
  have hown : s.vm.findClass RL = some m.cls := findClass_of_methodNamed B.named
  have hlocks := B.notSynchronized
  have htab : c.exceptionTable.toList = [⟨0, 6, 7, 23⟩, ⟨0, 6, 11, 14⟩, ⟨0, 6, 15, 17⟩] := vx_table (x := yL_insert) B (hts _ List.mem_cons_self)
  have hS : va_S (gA q [0, 1, 2]) s.heap s.heap [] := va_S.rf
  have hl := lv_entry ([.ref (q 0), .int p1, .int p2]) (n := 4) (Nat.le_of_ble_eq_true rfl)
  rw [lg_entry_eq]
  generalize (lg_sl ([.ref (q 0), .int p1, .int p2]) ++ List.replicate (4 - (lg_sl ([.ref (q 0), .int p1, .int p2])).length) Slot.unset).toArray = ls at hl ⊢
  have hl : lv_has ls 4 [(0, .ref (q 0)), (1, .int p1), (2, .int p2)] := hl
  unfold fL_insert at hf
  refine lv_aload_n hx hb dL_insert_0 rfl (lv_at hl 0 rfl) ?_
  refine lv_iload_n hx hb dL_insert_1 rfl (lv_at hl 1 rfl) ?_
  refine lv_iload_n hx hb dL_insert_2 rfl (lv_at hl 2 rfl) ?_
  rcases bx_some hf with ⟨⟨e3, Tn3, Ta3⟩, hc, hf⟩ | ⟨⟨r3, Tn3, Ta3⟩, hc, hf⟩
  · try dsimp only at hf
    refine g_callX (ws' := (w_0_1_2 q cI cJ cD Tn3 Ta3)) hq [0, 1, 2] [0, 1, 2] [.inl 0, .inl 1, .inl 2] (vx_runV (As := [.int p1, .int p2]) (rest := []) ⟨hx, hb, hml, hown, hts⟩ (kX8_insertx l hlt D cI cJ cD sa q hq N Tn Ta p1 p2 e3 Tn3 Ta3 hc) (cwV 2 hts gL_insert_X8_insert rfl rfl rfl (by decide +kernel) ⟨(Nat.le_of_ble_eq_true rfl), (Nat.le_of_ble_eq_true rfl)⟩) ⟨gPx_blind, va_recv hE.1 hP (ci := 6) (q0 := 0) rfl rfl, fun U hU hW => ⟨rfl, by rw [hU]; exact hP.sub (ws' := (w_0_1_2 q cI cJ cD Tn Ta)) [0, 1, 2] rfl, gEv.warm hW hE, gXe.go hW hS (gMono rfl) hXe hU⟩⟩ rfl rfl hl.1 rfl (lv_room (Nat.le_of_ble_eq_true rfl)) dL_insert_3 ⟨(Nat.le_of_ble_eq_true rfl), (Nat.le_of_ble_eq_true rfl)⟩) hP hS (gSub rfl) rfl rfl rfl rfl (fun ce q9 H locs hP hS hce hcv hcl => ?_)
    by_cases c_1 : e3 = 0
    · have hf := (if_pos c_1).symm.trans hf
      subst c_1
      refine vx_catch (E := "java/lang/IndexOutOfBoundsException") (name := "java/lang/IndexOutOfBoundsException") hown [] ⟨0, 6, 7, 23⟩ [⟨0, 6, 11, 14⟩, ⟨0, 6, 15, 17⟩] htab (fun _ h => nomatch h) rfl (by decide) (hts (.classLink RL 23 "java/lang/IndexOutOfBoundsException") (by decide +kernel)) (va_Nw.use rfl (hXe.1.2.1 "java/lang/IndexOutOfBoundsException" (by decide +kernel))) hce hcv hcl ?_
      refine lv_astore_n (lv' := [(3, .ref q9), (0, .ref (q 0)), (1, .int p1), (2, .int p2)]) hx hb dL_insert_7 rfl hl (by decide) rfl (fun ls hl => ?_)
      refine lv_ldc (v := (-99999 : Int32)) hx hb hown (hts (.constant RL 16 (-99999 : Int32)) (by decide +kernel)) dL_insert_8 ?_
      cases hf
      refine W.widen (k := 1) (n := 6) (Nat.le_of_ble_eq_true rfl) (Nat.le_of_ble_eq_true rfl) ?_
      exact W.iret hx hb hr (fun t ht hW => ⟨⟨rfl, by rw [ht]; exact hP⟩, hS.F ht⟩) hS.2.2 dL_insert_10
    have hf := (if_neg c_1).symm.trans hf
    by_cases c_2 : e3 = 1
    · have hf := (if_pos c_2).symm.trans hf
      subst c_2
      refine vx_catch (E := "java/lang/IllegalArgumentException") (name := "java/lang/IllegalArgumentException") hown [⟨0, 6, 7, 23⟩] ⟨0, 6, 11, 14⟩ [⟨0, 6, 15, 17⟩] htab (List.forall_mem_cons.mpr ⟨Or.inr ⟨by decide, "java/lang/IndexOutOfBoundsException", hts (.classLink RL 23 "java/lang/IndexOutOfBoundsException") (by decide +kernel), hXe.1.2.2.1 "java/lang/IllegalArgumentException" (by decide +kernel) "java/lang/IndexOutOfBoundsException" (by decide +kernel) (by decide +kernel)⟩, fun _ h => nomatch h⟩) rfl (by decide) (hts (.classLink RL 14 "java/lang/IllegalArgumentException") (by decide +kernel)) (va_Nw.use rfl (hXe.1.2.1 "java/lang/IllegalArgumentException" (by decide +kernel))) hce hcv hcl ?_
      refine lv_astore_n (lv' := [(3, .ref q9), (0, .ref (q 0)), (1, .int p1), (2, .int p2)]) hx hb dL_insert_11 rfl hl (by decide) rfl (fun ls hl => ?_)
      refine lv_ldc (v := (-99999 : Int32)) hx hb hown (hts (.constant RL 16 (-99999 : Int32)) (by decide +kernel)) dL_insert_12 ?_
      cases hf
      refine W.widen (k := 1) (n := 6) (Nat.le_of_ble_eq_true rfl) (Nat.le_of_ble_eq_true rfl) ?_
      exact W.iret hx hb hr (fun t ht hW => ⟨⟨rfl, by rw [ht]; exact hP⟩, hS.F ht⟩) hS.2.2 dL_insert_14
    have hf := (if_neg c_2).symm.trans hf
    by_cases c_3 : e3 = 2
    · have hf := (if_pos c_3).symm.trans hf
      subst c_3
      refine vx_catch (E := "java/lang/IllegalStateException") (name := "java/lang/IllegalStateException") hown [⟨0, 6, 7, 23⟩, ⟨0, 6, 11, 14⟩] ⟨0, 6, 15, 17⟩ [] htab (List.forall_mem_cons.mpr ⟨Or.inr ⟨by decide, "java/lang/IndexOutOfBoundsException", hts (.classLink RL 23 "java/lang/IndexOutOfBoundsException") (by decide +kernel), hXe.1.2.2.1 "java/lang/IllegalStateException" (by decide +kernel) "java/lang/IndexOutOfBoundsException" (by decide +kernel) (by decide +kernel)⟩, List.forall_mem_cons.mpr ⟨Or.inr ⟨by decide, "java/lang/IllegalArgumentException", hts (.classLink RL 14 "java/lang/IllegalArgumentException") (by decide +kernel), hXe.1.2.2.1 "java/lang/IllegalStateException" (by decide +kernel) "java/lang/IllegalArgumentException" (by decide +kernel) (by decide +kernel)⟩, fun _ h => nomatch h⟩⟩) rfl (by decide) (hts (.classLink RL 17 "java/lang/IllegalStateException") (by decide +kernel)) (va_Nw.use rfl (hXe.1.2.1 "java/lang/IllegalStateException" (by decide +kernel))) hce hcv hcl ?_
      refine lv_astore_n (lv' := [(3, .ref q9), (0, .ref (q 0)), (1, .int p1), (2, .int p2)]) hx hb dL_insert_15 rfl hl (by decide) rfl (fun ls hl => ?_)
      refine lv_ldc (v := (-99999 : Int32)) hx hb hown (hts (.constant RL 16 (-99999 : Int32)) (by decide +kernel)) dL_insert_16 ?_
      cases hf
      refine W.widen (k := 1) (n := 6) (Nat.le_of_ble_eq_true rfl) (Nat.le_of_ble_eq_true rfl) ?_
      exact W.iret hx hb hr (fun t ht hW => ⟨⟨rfl, by rw [ht]; exact hP⟩, hS.F ht⟩) hS.2.2 dL_insert_18
    have hf := (if_neg c_3).symm.trans hf
    exact nomatch hf
  try dsimp only at hf
  refine g_call0 (ws' := (w_0_1_2 q cI cJ cD Tn3 Ta3)) (st1 := [.int r3]) hq [0, 1, 2] [0, 1, 2] [.inl 0, .inl 1, .inl 2] (va_runV (As := [.int p1, .int p2]) (rest := []) ⟨hx, hb, hml, hown, hts⟩ (kX8_insert l D cI cJ cD q hq N Tn Ta p1 p2 r3 Tn3 Ta3 hc) (cwV 2 hts gL_insert_X8_insert rfl rfl rfl (by decide +kernel) ⟨(Nat.le_of_ble_eq_true rfl), (Nat.le_of_ble_eq_true rfl)⟩) ⟨gP_blind, va_recv hE.1 hP (ci := 6) (q0 := 0) rfl rfl, fun U hU hW => ⟨rfl, by rw [hU]; exact hP.sub (ws' := (w_0_1_2 q cI cJ cD Tn Ta)) [0, 1, 2] rfl, gEv.warm hW hE⟩⟩ rfl rfl hl.1 rfl (lv_room (Nat.le_of_ble_eq_true rfl)) dL_insert_3 ⟨Nat.zero_le _, Nat.zero_le _⟩) hP hS (gSub rfl) rfl rfl rfl rfl rfl (fun H locs hP hS => ?_)
  cases hf
  refine W.widen (k := 1) (n := 6) (Nat.le_of_ble_eq_true rfl) (Nat.le_of_ble_eq_true rfl) ?_
  exact W.iret hx hb hr (fun t ht hW => ⟨⟨rfl, by rw [ht]; exact hP⟩, hS.F ht⟩) hS.2.2 dL_insert_6
set_option maxHeartbeats 4000000 in
set_option maxRecDepth 100000 in
theorem kL_set (l : Launch) (hlt : l.stackTraces = false) (D : va_G) (cI cJ cD : ClassId) (sa : Nat → Nat) (q : Nat → Nat) (hq : gInj 14 q) (N : Nat) (Tn : Int32) (Ta : (Nat → Int32)) (p1 : Int32) (p2 : Int32) (r0 : Int32) (Ta9 : (Nat → Int32)) (hf : fL_set N Tn Ta p1 p2 = some (r0, Ta9)) : Met l yL_set wsL_set rL_setx (gPx D cI cJ cD sa (gA q [0, 1, 2]) [.ref (q 0), .int p1, .int p2] (w_0_1_2 q cI cJ cD Tn Ta)) (gQ D (some (.int r0)) (w_0_1_2 q cI cJ cD Tn Ta9) (gA q [0, 1, 2])) 1 6 (gA q [0, 1, 2]) := by
  refine g_ofWH (cc := cL_set) (maxL := 4) (ret := (some .int)) (hh := [(0, 6, 7, 23), (0, 6, 11, 14)]) (by decide +kernel) rfl ?_
  intro p e s m args below meth c s₁ B hml hv
  obtain ⟨rfl, hP, hE, hXe⟩ := hv
  have hx := B.exec
  have hb := B.bytes
  have hr := B.returns
  have hts := atoms_spec (ws := wsL_set) B.pre
  have hown : s.vm.findClass RL = some m.cls := findClass_of_methodNamed B.named
  have hlocks := B.notSynchronized
  have htab : c.exceptionTable.toList = [⟨0, 6, 7, 23⟩, ⟨0, 6, 11, 14⟩] := vx_table (x := yL_set) B (hts _ List.mem_cons_self)
  have hS : va_S (gA q [0, 1, 2]) s.heap s.heap [] := va_S.rf
  have hl := lv_entry ([.ref (q 0), .int p1, .int p2]) (n := 4) (Nat.le_of_ble_eq_true rfl)
  rw [lg_entry_eq]
  generalize (lg_sl ([.ref (q 0), .int p1, .int p2]) ++ List.replicate (4 - (lg_sl ([.ref (q 0), .int p1, .int p2])).length) Slot.unset).toArray = ls at hl ⊢
  have hl : lv_has ls 4 [(0, .ref (q 0)), (1, .int p1), (2, .int p2)] := hl
  unfold fL_set at hf
  refine lv_aload_n hx hb dL_set_0 rfl (lv_at hl 0 rfl) ?_
  refine lv_iload_n hx hb dL_set_1 rfl (lv_at hl 1 rfl) ?_
  refine lv_iload_n hx hb dL_set_2 rfl (lv_at hl 2 rfl) ?_
  rcases bx_some hf with ⟨⟨e3, Ta3⟩, hc, hf⟩ | ⟨⟨r3, Ta3⟩, hc, hf⟩
  · try dsimp only at hf
    refine g_callX (ws' := (w_0_1_2 q cI cJ cD Tn Ta3)) hq [0, 1, 2] [0, 1, 2] [.inl 0, .inl 1, .inl 2] (vx_runV (As := [.int p1, .int p2]) (rest := []) ⟨hx, hb, hml, hown, hts⟩ (kX8_setx l hlt D cI cJ cD sa q hq N Tn Ta p1 p2 e3 Ta3 hc) (cwV 2 hts gL_set_X8_set rfl rfl rfl (by decide +kernel) ⟨(Nat.le_of_ble_eq_true rfl), (Nat.le_of_ble_eq_true rfl)⟩) ⟨gPx_blind, va_recv hE.1 hP (ci := 6) (q0 := 0) rfl rfl, fun U hU hW => ⟨rfl, by rw [hU]; exact hP.sub (ws' := (w_0_1_2 q cI cJ cD Tn Ta)) [0, 1, 2] rfl, gEv.warm hW hE, gXe.go hW hS (gMono rfl) hXe hU⟩⟩ rfl rfl hl.1 rfl (lv_room (Nat.le_of_ble_eq_true rfl)) dL_set_3 ⟨(Nat.le_of_ble_eq_true rfl), (Nat.le_of_ble_eq_true rfl)⟩) hP hS (gSub rfl) rfl rfl rfl rfl (fun ce q9 H locs hP hS hce hcv hcl => ?_)
    by_cases c_1 : e3 = 0
    · have hf := (if_pos c_1).symm.trans hf
      subst c_1
      refine vx_catch (E := "java/lang/IndexOutOfBoundsException") (name := "java/lang/IndexOutOfBoundsException") hown [] ⟨0, 6, 7, 23⟩ [⟨0, 6, 11, 14⟩] htab (fun _ h => nomatch h) rfl (by decide) (hts (.classLink RL 23 "java/lang/IndexOutOfBoundsException") (by decide +kernel)) (va_Nw.use rfl (hXe.1.2.1 "java/lang/IndexOutOfBoundsException" (by decide +kernel))) hce hcv hcl ?_
      refine lv_astore_n (lv' := [(3, .ref q9), (0, .ref (q 0)), (1, .int p1), (2, .int p2)]) hx hb dL_set_7 rfl hl (by decide) rfl (fun ls hl => ?_)
      refine lv_ldc (v := (-99999 : Int32)) hx hb hown (hts (.constant RL 16 (-99999 : Int32)) (by decide +kernel)) dL_set_8 ?_
      cases hf
      refine W.widen (k := 1) (n := 6) (Nat.le_of_ble_eq_true rfl) (Nat.le_of_ble_eq_true rfl) ?_
      exact W.iret hx hb hr (fun t ht hW => ⟨⟨rfl, by rw [ht]; exact hP⟩, hS.F ht⟩) hS.2.2 dL_set_10
    have hf := (if_neg c_1).symm.trans hf
    by_cases c_2 : e3 = 1
    · have hf := (if_pos c_2).symm.trans hf
      subst c_2
      refine vx_catch (E := "java/lang/IllegalArgumentException") (name := "java/lang/IllegalArgumentException") hown [⟨0, 6, 7, 23⟩] ⟨0, 6, 11, 14⟩ [] htab (List.forall_mem_cons.mpr ⟨Or.inr ⟨by decide, "java/lang/IndexOutOfBoundsException", hts (.classLink RL 23 "java/lang/IndexOutOfBoundsException") (by decide +kernel), hXe.1.2.2.1 "java/lang/IllegalArgumentException" (by decide +kernel) "java/lang/IndexOutOfBoundsException" (by decide +kernel) (by decide +kernel)⟩, fun _ h => nomatch h⟩) rfl (by decide) (hts (.classLink RL 14 "java/lang/IllegalArgumentException") (by decide +kernel)) (va_Nw.use rfl (hXe.1.2.1 "java/lang/IllegalArgumentException" (by decide +kernel))) hce hcv hcl ?_
      refine lv_astore_n (lv' := [(3, .ref q9), (0, .ref (q 0)), (1, .int p1), (2, .int p2)]) hx hb dL_set_11 rfl hl (by decide) rfl (fun ls hl => ?_)
      refine lv_ldc (v := (-99999 : Int32)) hx hb hown (hts (.constant RL 16 (-99999 : Int32)) (by decide +kernel)) dL_set_12 ?_
      cases hf
      refine W.widen (k := 1) (n := 6) (Nat.le_of_ble_eq_true rfl) (Nat.le_of_ble_eq_true rfl) ?_
      exact W.iret hx hb hr (fun t ht hW => ⟨⟨rfl, by rw [ht]; exact hP⟩, hS.F ht⟩) hS.2.2 dL_set_14
    have hf := (if_neg c_2).symm.trans hf
    exact nomatch hf
  try dsimp only at hf
  refine g_call0 (ws' := (w_0_1_2 q cI cJ cD Tn Ta3)) (st1 := [.int r3]) hq [0, 1, 2] [0, 1, 2] [.inl 0, .inl 1, .inl 2] (va_runV (As := [.int p1, .int p2]) (rest := []) ⟨hx, hb, hml, hown, hts⟩ (kX8_set l D cI cJ cD q hq N Tn Ta p1 p2 r3 Ta3 hc) (cwV 2 hts gL_set_X8_set rfl rfl rfl (by decide +kernel) ⟨(Nat.le_of_ble_eq_true rfl), (Nat.le_of_ble_eq_true rfl)⟩) ⟨gP_blind, va_recv hE.1 hP (ci := 6) (q0 := 0) rfl rfl, fun U hU hW => ⟨rfl, by rw [hU]; exact hP.sub (ws' := (w_0_1_2 q cI cJ cD Tn Ta)) [0, 1, 2] rfl, gEv.warm hW hE⟩⟩ rfl rfl hl.1 rfl (lv_room (Nat.le_of_ble_eq_true rfl)) dL_set_3 ⟨Nat.zero_le _, Nat.zero_le _⟩) hP hS (gSub rfl) rfl rfl rfl rfl rfl (fun H locs hP hS => ?_)
  cases hf
  refine W.widen (k := 1) (n := 6) (Nat.le_of_ble_eq_true rfl) (Nat.le_of_ble_eq_true rfl) ?_
  exact W.iret hx hb hr (fun t ht hW => ⟨⟨rfl, by rw [ht]; exact hP⟩, hS.F ht⟩) hS.2.2 dL_set_6
set_option maxHeartbeats 4000000 in
set_option maxRecDepth 100000 in
theorem kL_remove (l : Launch) (hlt : l.stackTraces = false) (D : va_G) (cI cJ cD : ClassId) (sa : Nat → Nat) (q : Nat → Nat) (hq : gInj 14 q) (N : Nat) (Tn : Int32) (Ta : (Nat → Int32)) (p1 : Int32) (r0 : Int32) (Tn9 : Int32) (Ta9 : (Nat → Int32)) (hf : fL_remove N Tn Ta p1 = some (r0, Tn9, Ta9)) : Met l yL_remove wsL_remove rL_removex (gPx D cI cJ cD sa (gA q [0, 1, 2]) [.ref (q 0), .int p1] (w_0_1_2 q cI cJ cD Tn Ta)) (gQ D (some (.int r0)) (w_0_1_2 q cI cJ cD Tn9 Ta9) (gA q [0, 1, 2])) 1 6 (gA q [0, 1, 2]) := by
  refine g_ofWH (cc := cL_remove) (maxL := 3) (ret := (some .int)) (hh := [(0, 5, 6, 23)]) (by decide +kernel) rfl ?_
  intro p e s m args below meth c s₁ B hml hv
  obtain ⟨rfl, hP, hE, hXe⟩ := hv
  have hx := B.exec
  have hb := B.bytes
  have hr := B.returns
  have hts := atoms_spec (ws := wsL_remove) B.pre
  have hown : s.vm.findClass RL = some m.cls := findClass_of_methodNamed B.named
  have hlocks := B.notSynchronized
  have htab : c.exceptionTable.toList = [⟨0, 5, 6, 23⟩] := vx_table (x := yL_remove) B (hts _ List.mem_cons_self)
  have hS : va_S (gA q [0, 1, 2]) s.heap s.heap [] := va_S.rf
  have hl := lv_entry ([.ref (q 0), .int p1]) (n := 3) (Nat.le_of_ble_eq_true rfl)
  rw [lg_entry_eq]
  generalize (lg_sl ([.ref (q 0), .int p1]) ++ List.replicate (3 - (lg_sl ([.ref (q 0), .int p1])).length) Slot.unset).toArray = ls at hl ⊢
  have hl : lv_has ls 3 [(0, .ref (q 0)), (1, .int p1)] := hl
  unfold fL_remove at hf
  refine lv_aload_n hx hb dL_remove_0 rfl (lv_at hl 0 rfl) ?_
  refine lv_iload_n hx hb dL_remove_1 rfl (lv_at hl 1 rfl) ?_
  rcases bx_some hf with ⟨⟨e2, Tn2, Ta2⟩, hc, hf⟩ | ⟨⟨r2, Tn2, Ta2⟩, hc, hf⟩
  · try dsimp only at hf
    refine g_callX (ws' := (w_0_1_2 q cI cJ cD Tn2 Ta2)) hq [0, 1, 2] [0, 1, 2] [.inl 0, .inl 1, .inl 2] (vx_runV (As := [.int p1]) (rest := []) ⟨hx, hb, hml, hown, hts⟩ (kX8_removex l hlt D cI cJ cD sa q hq N Tn Ta p1 e2 Tn2 Ta2 hc) (cwV 1 hts gL_remove_X8_remove rfl rfl rfl (by decide +kernel) ⟨(Nat.le_of_ble_eq_true rfl), (Nat.le_of_ble_eq_true rfl)⟩) ⟨gPx_blind, va_recv hE.1 hP (ci := 6) (q0 := 0) rfl rfl, fun U hU hW => ⟨rfl, by rw [hU]; exact hP.sub (ws' := (w_0_1_2 q cI cJ cD Tn Ta)) [0, 1, 2] rfl, gEv.warm hW hE, gXe.go hW hS (gMono rfl) hXe hU⟩⟩ rfl rfl hl.1 rfl (lv_room (Nat.le_of_ble_eq_true rfl)) dL_remove_2 ⟨(Nat.le_of_ble_eq_true rfl), (Nat.le_of_ble_eq_true rfl)⟩) hP hS (gSub rfl) rfl rfl rfl rfl (fun ce q9 H locs hP hS hce hcv hcl => ?_)
    by_cases c_1 : e2 = 0
    · have hf := (if_pos c_1).symm.trans hf
      subst c_1
      refine vx_catch (E := "java/lang/IndexOutOfBoundsException") (name := "java/lang/IndexOutOfBoundsException") hown [] ⟨0, 5, 6, 23⟩ [] htab (fun _ h => nomatch h) rfl (by decide) (hts (.classLink RL 23 "java/lang/IndexOutOfBoundsException") (by decide +kernel)) (va_Nw.use rfl (hXe.1.2.1 "java/lang/IndexOutOfBoundsException" (by decide +kernel))) hce hcv hcl ?_
      refine lv_astore_n (lv' := [(2, .ref q9), (0, .ref (q 0)), (1, .int p1)]) hx hb dL_remove_6 rfl hl (by decide) rfl (fun ls hl => ?_)
      refine lv_ldc (v := (-99999 : Int32)) hx hb hown (hts (.constant RL 16 (-99999 : Int32)) (by decide +kernel)) dL_remove_7 ?_
      cases hf
      refine W.widen (k := 1) (n := 6) (Nat.le_of_ble_eq_true rfl) (Nat.le_of_ble_eq_true rfl) ?_
      exact W.iret hx hb hr (fun t ht hW => ⟨⟨rfl, by rw [ht]; exact hP⟩, hS.F ht⟩) hS.2.2 dL_remove_9
    have hf := (if_neg c_1).symm.trans hf
    exact nomatch hf
  try dsimp only at hf
  refine g_call0 (ws' := (w_0_1_2 q cI cJ cD Tn2 Ta2)) (st1 := [.int r2]) hq [0, 1, 2] [0, 1, 2] [.inl 0, .inl 1, .inl 2] (va_runV (As := [.int p1]) (rest := []) ⟨hx, hb, hml, hown, hts⟩ (kX8_remove l D cI cJ cD q hq N Tn Ta p1 r2 Tn2 Ta2 hc) (cwV 1 hts gL_remove_X8_remove rfl rfl rfl (by decide +kernel) ⟨(Nat.le_of_ble_eq_true rfl), (Nat.le_of_ble_eq_true rfl)⟩) ⟨gP_blind, va_recv hE.1 hP (ci := 6) (q0 := 0) rfl rfl, fun U hU hW => ⟨rfl, by rw [hU]; exact hP.sub (ws' := (w_0_1_2 q cI cJ cD Tn Ta)) [0, 1, 2] rfl, gEv.warm hW hE⟩⟩ rfl rfl hl.1 rfl (lv_room (Nat.le_of_ble_eq_true rfl)) dL_remove_2 ⟨Nat.zero_le _, Nat.zero_le _⟩) hP hS (gSub rfl) rfl rfl rfl rfl rfl (fun H locs hP hS => ?_)
  cases hf
  refine W.widen (k := 1) (n := 6) (Nat.le_of_ble_eq_true rfl) (Nat.le_of_ble_eq_true rfl) ?_
  exact W.iret hx hb hr (fun t ht hW => ⟨⟨rfl, by rw [ht]; exact hP⟩, hS.F ht⟩) hS.2.2 dL_remove_5
set_option maxHeartbeats 4000000 in
set_option maxRecDepth 100000 in
theorem kL_rotate (l : Launch) (hlt : l.stackTraces = false) (D : va_G) (cI cJ cD : ClassId) (sa : Nat → Nat) (q : Nat → Nat) (hq : gInj 14 q) (N : Nat) (Tn : Int32) (Ta : (Nat → Int32)) (p1 : Int32) (r0 : Int32) (Ta9 : (Nat → Int32)) (hf : fL_rotate N Tn Ta p1 = some (r0, Ta9)) : Met l yL_rotate wsL_rotate rL_rotatex (gPx D cI cJ cD sa (gA q [0, 1, 2]) [.ref (q 0), .int p1] (w_0_1_2 q cI cJ cD Tn Ta)) (gQ D (some (.int r0)) (w_0_1_2 q cI cJ cD Tn Ta9) (gA q [0, 1, 2])) 1 6 (gA q [0, 1, 2]) := by
  refine g_ofWH (cc := cL_rotate) (maxL := 3) (ret := (some .int)) (hh := [(0, 5, 6, 14), (0, 5, 10, 17)]) (by decide +kernel) rfl ?_
  intro p e s m args below meth c s₁ B hml hv
  obtain ⟨rfl, hP, hE, hXe⟩ := hv
  have hx := B.exec
  have hb := B.bytes
  have hr := B.returns
  have hts := atoms_spec (ws := wsL_rotate) B.pre
  have hown : s.vm.findClass RL = some m.cls := findClass_of_methodNamed B.named
  have hlocks := B.notSynchronized
  have htab : c.exceptionTable.toList = [⟨0, 5, 6, 14⟩, ⟨0, 5, 10, 17⟩] := vx_table (x := yL_rotate) B (hts _ List.mem_cons_self)
  have hS : va_S (gA q [0, 1, 2]) s.heap s.heap [] := va_S.rf
  have hl := lv_entry ([.ref (q 0), .int p1]) (n := 3) (Nat.le_of_ble_eq_true rfl)
  rw [lg_entry_eq]
  generalize (lg_sl ([.ref (q 0), .int p1]) ++ List.replicate (3 - (lg_sl ([.ref (q 0), .int p1])).length) Slot.unset).toArray = ls at hl ⊢
  have hl : lv_has ls 3 [(0, .ref (q 0)), (1, .int p1)] := hl
  unfold fL_rotate at hf
  refine lv_aload_n hx hb dL_rotate_0 rfl (lv_at hl 0 rfl) ?_
  refine lv_iload_n hx hb dL_rotate_1 rfl (lv_at hl 1 rfl) ?_
  rcases bx_some hf with ⟨⟨e2, Ta2⟩, hc, hf⟩ | ⟨⟨r2, Ta2⟩, hc, hf⟩
  · try dsimp only at hf
    refine g_callX (ws' := (w_0_1_2 q cI cJ cD Tn Ta2)) hq [0, 1, 2] [0, 1, 2] [.inl 0, .inl 1, .inl 2] (vx_runV (As := [.int p1]) (rest := []) ⟨hx, hb, hml, hown, hts⟩ (kX8_rotatex l hlt D cI cJ cD sa q hq N Tn Ta p1 e2 Ta2 hc) (cwV 1 hts gL_rotate_X8_rotate rfl rfl rfl (by decide +kernel) ⟨(Nat.le_of_ble_eq_true rfl), (Nat.le_of_ble_eq_true rfl)⟩) ⟨gPx_blind, va_recv hE.1 hP (ci := 6) (q0 := 0) rfl rfl, fun U hU hW => ⟨rfl, by rw [hU]; exact hP.sub (ws' := (w_0_1_2 q cI cJ cD Tn Ta)) [0, 1, 2] rfl, gEv.warm hW hE, gXe.go hW hS (gMono rfl) hXe hU⟩⟩ rfl rfl hl.1 rfl (lv_room (Nat.le_of_ble_eq_true rfl)) dL_rotate_2 ⟨(Nat.le_of_ble_eq_true rfl), (Nat.le_of_ble_eq_true rfl)⟩) hP hS (gSub rfl) rfl rfl rfl rfl (fun ce q9 H locs hP hS hce hcv hcl => ?_)
    by_cases c_1 : e2 = 1
    · have hf := (if_pos c_1).symm.trans hf
      subst c_1
      refine vx_catch (E := "java/lang/IllegalArgumentException") (name := "java/lang/IllegalArgumentException") hown [] ⟨0, 5, 6, 14⟩ [⟨0, 5, 10, 17⟩] htab (fun _ h => nomatch h) rfl (by decide) (hts (.classLink RL 14 "java/lang/IllegalArgumentException") (by decide +kernel)) (va_Nw.use rfl (hXe.1.2.1 "java/lang/IllegalArgumentException" (by decide +kernel))) hce hcv hcl ?_
      refine lv_astore_n (lv' := [(2, .ref q9), (0, .ref (q 0)), (1, .int p1)]) hx hb dL_rotate_6 rfl hl (by decide) rfl (fun ls hl => ?_)
      refine lv_ldc (v := (-99999 : Int32)) hx hb hown (hts (.constant RL 16 (-99999 : Int32)) (by decide +kernel)) dL_rotate_7 ?_
      cases hf
      refine W.widen (k := 1) (n := 6) (Nat.le_of_ble_eq_true rfl) (Nat.le_of_ble_eq_true rfl) ?_
      exact W.iret hx hb hr (fun t ht hW => ⟨⟨rfl, by rw [ht]; exact hP⟩, hS.F ht⟩) hS.2.2 dL_rotate_9
    have hf := (if_neg c_1).symm.trans hf
    by_cases c_2 : e2 = 2
    · have hf := (if_pos c_2).symm.trans hf
      subst c_2
      refine vx_catch (E := "java/lang/IllegalStateException") (name := "java/lang/IllegalStateException") hown [⟨0, 5, 6, 14⟩] ⟨0, 5, 10, 17⟩ [] htab (List.forall_mem_cons.mpr ⟨Or.inr ⟨by decide, "java/lang/IllegalArgumentException", hts (.classLink RL 14 "java/lang/IllegalArgumentException") (by decide +kernel), hXe.1.2.2.1 "java/lang/IllegalStateException" (by decide +kernel) "java/lang/IllegalArgumentException" (by decide +kernel) (by decide +kernel)⟩, fun _ h => nomatch h⟩) rfl (by decide) (hts (.classLink RL 17 "java/lang/IllegalStateException") (by decide +kernel)) (va_Nw.use rfl (hXe.1.2.1 "java/lang/IllegalStateException" (by decide +kernel))) hce hcv hcl ?_
      refine lv_astore_n (lv' := [(2, .ref q9), (0, .ref (q 0)), (1, .int p1)]) hx hb dL_rotate_10 rfl hl (by decide) rfl (fun ls hl => ?_)
      refine lv_ldc (v := (-99999 : Int32)) hx hb hown (hts (.constant RL 16 (-99999 : Int32)) (by decide +kernel)) dL_rotate_11 ?_
      cases hf
      refine W.widen (k := 1) (n := 6) (Nat.le_of_ble_eq_true rfl) (Nat.le_of_ble_eq_true rfl) ?_
      exact W.iret hx hb hr (fun t ht hW => ⟨⟨rfl, by rw [ht]; exact hP⟩, hS.F ht⟩) hS.2.2 dL_rotate_13
    have hf := (if_neg c_2).symm.trans hf
    exact nomatch hf
  try dsimp only at hf
  refine g_call0 (ws' := (w_0_1_2 q cI cJ cD Tn Ta2)) (st1 := [.int r2]) hq [0, 1, 2] [0, 1, 2] [.inl 0, .inl 1, .inl 2] (va_runV (As := [.int p1]) (rest := []) ⟨hx, hb, hml, hown, hts⟩ (kX8_rotate l D cI cJ cD q hq N Tn Ta p1 r2 Ta2 hc) (cwV 1 hts gL_rotate_X8_rotate rfl rfl rfl (by decide +kernel) ⟨(Nat.le_of_ble_eq_true rfl), (Nat.le_of_ble_eq_true rfl)⟩) ⟨gP_blind, va_recv hE.1 hP (ci := 6) (q0 := 0) rfl rfl, fun U hU hW => ⟨rfl, by rw [hU]; exact hP.sub (ws' := (w_0_1_2 q cI cJ cD Tn Ta)) [0, 1, 2] rfl, gEv.warm hW hE⟩⟩ rfl rfl hl.1 rfl (lv_room (Nat.le_of_ble_eq_true rfl)) dL_rotate_2 ⟨Nat.zero_le _, Nat.zero_le _⟩) hP hS (gSub rfl) rfl rfl rfl rfl rfl (fun H locs hP hS => ?_)
  cases hf
  refine W.widen (k := 1) (n := 6) (Nat.le_of_ble_eq_true rfl) (Nat.le_of_ble_eq_true rfl) ?_
  exact W.iret hx hb hr (fun t ht hW => ⟨⟨rfl, by rw [ht]; exact hP⟩, hS.F ht⟩) hS.2.2 dL_rotate_5
set_option maxHeartbeats 4000000 in
set_option maxRecDepth 100000 in
theorem kL_copy (l : Launch) (hlt : l.stackTraces = false) (D : va_G) (cI cJ cD : ClassId) (sa : Nat → Nat) (q : Nat → Nat) (hq : gInj 14 q) (N : Nat) (Tn : Int32) (Ta : (Nat → Int32)) (p1 : Int32) (p2 : Int32) (r0 : Int32) (Tn9 : Int32) (Ta9 : (Nat → Int32)) (hf : fL_copy N Tn Ta p1 p2 = some (r0, Tn9, Ta9)) : Met l yL_copy wsL_copy rL_copyx (gPx D cI cJ cD sa (gA q [0, 1, 2]) [.ref (q 0), .int p1, .int p2] (w_0_1_2 q cI cJ cD Tn Ta)) (gQ D (some (.int r0)) (w_0_1_2 q cI cJ cD Tn9 Ta9) (gA q [0, 1, 2])) 1 6 (gA q [0, 1, 2]) := by
  refine g_ofWH (cc := cL_copy) (maxL := 4) (ret := (some .int)) (hh := [(0, 6, 7, 23), (0, 6, 11, 17)]) (by decide +kernel) rfl ?_
  intro p e s m args below meth c s₁ B hml hv
  obtain ⟨rfl, hP, hE, hXe⟩ := hv
  have hx := B.exec
  have hb := B.bytes
  have hr := B.returns
  have hts := atoms_spec (ws := wsL_copy) B.pre
  have hown : s.vm.findClass RL = some m.cls := findClass_of_methodNamed B.named
  have hlocks := B.notSynchronized
  have htab : c.exceptionTable.toList = [⟨0, 6, 7, 23⟩, ⟨0, 6, 11, 17⟩] := vx_table (x := yL_copy) B (hts _ List.mem_cons_self)
  have hS : va_S (gA q [0, 1, 2]) s.heap s.heap [] := va_S.rf
  have hl := lv_entry ([.ref (q 0), .int p1, .int p2]) (n := 4) (Nat.le_of_ble_eq_true rfl)
  rw [lg_entry_eq]
  generalize (lg_sl ([.ref (q 0), .int p1, .int p2]) ++ List.replicate (4 - (lg_sl ([.ref (q 0), .int p1, .int p2])).length) Slot.unset).toArray = ls at hl ⊢
  have hl : lv_has ls 4 [(0, .ref (q 0)), (1, .int p1), (2, .int p2)] := hl
  unfold fL_copy at hf
  refine lv_aload_n hx hb dL_copy_0 rfl (lv_at hl 0 rfl) ?_
  refine lv_iload_n hx hb dL_copy_1 rfl (lv_at hl 1 rfl) ?_
  refine lv_iload_n hx hb dL_copy_2 rfl (lv_at hl 2 rfl) ?_
  rcases bx_some hf with ⟨⟨e3, Tn3, Ta3⟩, hc, hf⟩ | ⟨⟨r3, Tn3, Ta3⟩, hc, hf⟩
  · try dsimp only at hf
    refine g_callX (ws' := (w_0_1_2 q cI cJ cD Tn3 Ta3)) hq [0, 1, 2] [0, 1, 2] [.inl 0, .inl 1, .inl 2] (vx_runV (As := [.int p1, .int p2]) (rest := []) ⟨hx, hb, hml, hown, hts⟩ (kX8_appendPartx l hlt D cI cJ cD sa q hq N Tn Ta p1 p2 e3 Tn3 Ta3 hc) (cwV 2 hts gL_copy_X8_appendPart rfl rfl rfl (by decide +kernel) ⟨(Nat.le_of_ble_eq_true rfl), (Nat.le_of_ble_eq_true rfl)⟩) ⟨gPx_blind, va_recv hE.1 hP (ci := 6) (q0 := 0) rfl rfl, fun U hU hW => ⟨rfl, by rw [hU]; exact hP.sub (ws' := (w_0_1_2 q cI cJ cD Tn Ta)) [0, 1, 2] rfl, gEv.warm hW hE, gXe.go hW hS (gMono rfl) hXe hU⟩⟩ rfl rfl hl.1 rfl (lv_room (Nat.le_of_ble_eq_true rfl)) dL_copy_3 ⟨(Nat.le_of_ble_eq_true rfl), (Nat.le_of_ble_eq_true rfl)⟩) hP hS (gSub rfl) rfl rfl rfl rfl (fun ce q9 H locs hP hS hce hcv hcl => ?_)
    by_cases c_1 : e3 = 0
    · have hf := (if_pos c_1).symm.trans hf
      subst c_1
      refine vx_catch (E := "java/lang/IndexOutOfBoundsException") (name := "java/lang/IndexOutOfBoundsException") hown [] ⟨0, 6, 7, 23⟩ [⟨0, 6, 11, 17⟩] htab (fun _ h => nomatch h) rfl (by decide) (hts (.classLink RL 23 "java/lang/IndexOutOfBoundsException") (by decide +kernel)) (va_Nw.use rfl (hXe.1.2.1 "java/lang/IndexOutOfBoundsException" (by decide +kernel))) hce hcv hcl ?_
      refine lv_astore_n (lv' := [(3, .ref q9), (0, .ref (q 0)), (1, .int p1), (2, .int p2)]) hx hb dL_copy_7 rfl hl (by decide) rfl (fun ls hl => ?_)
      refine lv_ldc (v := (-99999 : Int32)) hx hb hown (hts (.constant RL 16 (-99999 : Int32)) (by decide +kernel)) dL_copy_8 ?_
      cases hf
      refine W.widen (k := 1) (n := 6) (Nat.le_of_ble_eq_true rfl) (Nat.le_of_ble_eq_true rfl) ?_
      exact W.iret hx hb hr (fun t ht hW => ⟨⟨rfl, by rw [ht]; exact hP⟩, hS.F ht⟩) hS.2.2 dL_copy_10
    have hf := (if_neg c_1).symm.trans hf
    by_cases c_2 : e3 = 2
    · have hf := (if_pos c_2).symm.trans hf
      subst c_2
      refine vx_catch (E := "java/lang/IllegalStateException") (name := "java/lang/IllegalStateException") hown [⟨0, 6, 7, 23⟩] ⟨0, 6, 11, 17⟩ [] htab (List.forall_mem_cons.mpr ⟨Or.inr ⟨by decide, "java/lang/IndexOutOfBoundsException", hts (.classLink RL 23 "java/lang/IndexOutOfBoundsException") (by decide +kernel), hXe.1.2.2.1 "java/lang/IllegalStateException" (by decide +kernel) "java/lang/IndexOutOfBoundsException" (by decide +kernel) (by decide +kernel)⟩, fun _ h => nomatch h⟩) rfl (by decide) (hts (.classLink RL 17 "java/lang/IllegalStateException") (by decide +kernel)) (va_Nw.use rfl (hXe.1.2.1 "java/lang/IllegalStateException" (by decide +kernel))) hce hcv hcl ?_
      refine lv_astore_n (lv' := [(3, .ref q9), (0, .ref (q 0)), (1, .int p1), (2, .int p2)]) hx hb dL_copy_11 rfl hl (by decide) rfl (fun ls hl => ?_)
      refine lv_ldc (v := (-99999 : Int32)) hx hb hown (hts (.constant RL 16 (-99999 : Int32)) (by decide +kernel)) dL_copy_12 ?_
      cases hf
      refine W.widen (k := 1) (n := 6) (Nat.le_of_ble_eq_true rfl) (Nat.le_of_ble_eq_true rfl) ?_
      exact W.iret hx hb hr (fun t ht hW => ⟨⟨rfl, by rw [ht]; exact hP⟩, hS.F ht⟩) hS.2.2 dL_copy_14
    have hf := (if_neg c_2).symm.trans hf
    exact nomatch hf
  try dsimp only at hf
  refine g_call0 (ws' := (w_0_1_2 q cI cJ cD Tn3 Ta3)) (st1 := [.int r3]) hq [0, 1, 2] [0, 1, 2] [.inl 0, .inl 1, .inl 2] (va_runV (As := [.int p1, .int p2]) (rest := []) ⟨hx, hb, hml, hown, hts⟩ (kX8_appendPart l D cI cJ cD q hq N Tn Ta p1 p2 r3 Tn3 Ta3 hc) (cwV 2 hts gL_copy_X8_appendPart rfl rfl rfl (by decide +kernel) ⟨(Nat.le_of_ble_eq_true rfl), (Nat.le_of_ble_eq_true rfl)⟩) ⟨gP_blind, va_recv hE.1 hP (ci := 6) (q0 := 0) rfl rfl, fun U hU hW => ⟨rfl, by rw [hU]; exact hP.sub (ws' := (w_0_1_2 q cI cJ cD Tn Ta)) [0, 1, 2] rfl, gEv.warm hW hE⟩⟩ rfl rfl hl.1 rfl (lv_room (Nat.le_of_ble_eq_true rfl)) dL_copy_3 ⟨Nat.zero_le _, Nat.zero_le _⟩) hP hS (gSub rfl) rfl rfl rfl rfl rfl (fun H locs hP hS => ?_)
  cases hf
  refine W.widen (k := 1) (n := 6) (Nat.le_of_ble_eq_true rfl) (Nat.le_of_ble_eq_true rfl) ?_
  exact W.iret hx hb hr (fun t ht hW => ⟨⟨rfl, by rw [ht]; exact hP⟩, hS.F ht⟩) hS.2.2 dL_copy_6
set_option maxHeartbeats 4000000 in
set_option maxRecDepth 100000 in
theorem kL_deBruijn (l : Launch) (hlt : l.stackTraces = false) (D : va_G) (cI cJ cD : ClassId) (sa : Nat → Nat) (q : Nat → Nat) (hq : gInj 14 q) (N : Nat) (Tn : Int32) (Ta : (Nat → Int32)) (Wg : Int32) (Wz : Int32) (Ww : Int32) (Wr : Int32) (p1 : Int32) (p2 : Int32) (r0 : Int32) (Tn9 : Int32) (Ta9 : (Nat → Int32)) (Wg9 : Int32) (Wz9 : Int32) (Ww9 : Int32) (Wr9 : Int32) (hf : fL_deBruijn N Tn Ta Wg Wz Ww Wr p1 p2 = some (r0, Tn9, Ta9, Wg9, Wz9, Ww9, Wr9)) : Met l yL_deBruijn wsL_deBruijn rL_deBruijnx (gPx D cI cJ cD sa (gA q [0, 1, 2, 13]) [.ref (q 0), .int p1, .int p2] (w_0_1_2_13 q cI cJ cD Tn Ta Wg Wz Ww Wr)) (gQ D (some (.int r0)) (w_0_1_2_13 q cI cJ cD Tn9 Ta9 Wg9 Wz9 Ww9 Wr9) (gA q [0, 1, 2, 13])) 1 6 (gA q [0, 1, 2, 13]) := by
  refine g_ofWH (cc := cL_deBruijn) (maxL := 4) (ret := (some .int)) (hh := [(0, 6, 7, 14)]) (by decide +kernel) rfl ?_
  intro p e s m args below meth c s₁ B hml hv
  obtain ⟨rfl, hP, hE, hXe⟩ := hv
  have hx := B.exec
  have hb := B.bytes
  have hr := B.returns
  have hts := atoms_spec (ws := wsL_deBruijn) B.pre
  have hown : s.vm.findClass RL = some m.cls := findClass_of_methodNamed B.named
  have hlocks := B.notSynchronized
  have htab : c.exceptionTable.toList = [⟨0, 6, 7, 14⟩] := vx_table (x := yL_deBruijn) B (hts _ List.mem_cons_self)
  have hS : va_S (gA q [0, 1, 2, 13]) s.heap s.heap [] := va_S.rf
  have hl := lv_entry ([.ref (q 0), .int p1, .int p2]) (n := 4) (Nat.le_of_ble_eq_true rfl)
  rw [lg_entry_eq]
  generalize (lg_sl ([.ref (q 0), .int p1, .int p2]) ++ List.replicate (4 - (lg_sl ([.ref (q 0), .int p1, .int p2])).length) Slot.unset).toArray = ls at hl ⊢
  have hl : lv_has ls 4 [(0, .ref (q 0)), (1, .int p1), (2, .int p2)] := hl
  unfold fL_deBruijn at hf
  refine lv_aload_n hx hb dL_deBruijn_0 rfl (lv_at hl 0 rfl) ?_
  refine lv_iload_n hx hb dL_deBruijn_1 rfl (lv_at hl 1 rfl) ?_
  refine lv_iload_n hx hb dL_deBruijn_2 rfl (lv_at hl 2 rfl) ?_
  rcases bx_some hf with ⟨⟨e3, Tn3, Ta3, Wg3, Wz3, Ww3, Wr3⟩, hc, hf⟩ | ⟨⟨r3, Tn3, Ta3, Wg3, Wz3, Ww3, Wr3⟩, hc, hf⟩
  · try dsimp only at hf
    refine g_callX (ws' := (w_0_1_2_13 q cI cJ cD Tn3 Ta3 Wg3 Wz3 Ww3 Wr3)) hq [0, 1, 2, 13] [0, 1, 2, 13] [.inl 0, .inl 1, .inl 2, .inl 3] (vx_runV (As := [.int p1, .int p2]) (rest := []) ⟨hx, hb, hml, hown, hts⟩ (kX8_loadDeBruijnx l hlt D cI cJ cD sa q hq N Tn Ta Wg Wz Ww Wr p1 p2 e3 Tn3 Ta3 Wg3 Wz3 Ww3 Wr3 hc) (cwV 2 hts gL_deBruijn_X8_loadDeBruijn rfl rfl rfl (by decide +kernel) ⟨(Nat.le_of_ble_eq_true rfl), (Nat.le_of_ble_eq_true rfl)⟩) ⟨gPx_blind, va_recv hE.1 hP (ci := 6) (q0 := 0) rfl rfl, fun U hU hW => ⟨rfl, by rw [hU]; exact hP.sub (ws' := (w_0_1_2_13 q cI cJ cD Tn Ta Wg Wz Ww Wr)) [0, 1, 2, 3] rfl, gEv.warm hW hE, gXe.go hW hS (gMono rfl) hXe hU⟩⟩ rfl rfl hl.1 rfl (lv_room (Nat.le_of_ble_eq_true rfl)) dL_deBruijn_3 ⟨(Nat.le_of_ble_eq_true rfl), (Nat.le_of_ble_eq_true rfl)⟩) hP hS (gSub rfl) rfl rfl rfl rfl (fun ce q9 H locs hP hS hce hcv hcl => ?_)
    by_cases c_1 : e3 = 1
    · have hf := (if_pos c_1).symm.trans hf
      subst c_1
      refine vx_catch (E := "java/lang/IllegalArgumentException") (name := "java/lang/IllegalArgumentException") hown [] ⟨0, 6, 7, 14⟩ [] htab (fun _ h => nomatch h) rfl (by decide) (hts (.classLink RL 14 "java/lang/IllegalArgumentException") (by decide +kernel)) (va_Nw.use rfl (hXe.1.2.1 "java/lang/IllegalArgumentException" (by decide +kernel))) hce hcv hcl ?_
      refine lv_astore_n (lv' := [(3, .ref q9), (0, .ref (q 0)), (1, .int p1), (2, .int p2)]) hx hb dL_deBruijn_7 rfl hl (by decide) rfl (fun ls hl => ?_)
      refine lv_ldc (v := (-99999 : Int32)) hx hb hown (hts (.constant RL 16 (-99999 : Int32)) (by decide +kernel)) dL_deBruijn_8 ?_
      cases hf
      refine W.widen (k := 1) (n := 6) (Nat.le_of_ble_eq_true rfl) (Nat.le_of_ble_eq_true rfl) ?_
      exact W.iret hx hb hr (fun t ht hW => ⟨⟨rfl, by rw [ht]; exact hP⟩, hS.F ht⟩) hS.2.2 dL_deBruijn_10
    have hf := (if_neg c_1).symm.trans hf
    exact nomatch hf
  try dsimp only at hf
  refine g_call0 (ws' := (w_0_1_2_13 q cI cJ cD Tn3 Ta3 Wg3 Wz3 Ww3 Wr3)) (st1 := [.int r3]) hq [0, 1, 2, 13] [0, 1, 2, 13] [.inl 0, .inl 1, .inl 2, .inl 3] (va_runV (As := [.int p1, .int p2]) (rest := []) ⟨hx, hb, hml, hown, hts⟩ (kX8_loadDeBruijn l D cI cJ cD q hq N Tn Ta Wg Wz Ww Wr p1 p2 r3 Tn3 Ta3 Wg3 Wz3 Ww3 Wr3 hc) (cwV 2 hts gL_deBruijn_X8_loadDeBruijn rfl rfl rfl (by decide +kernel) ⟨(Nat.le_of_ble_eq_true rfl), (Nat.le_of_ble_eq_true rfl)⟩) ⟨gP_blind, va_recv hE.1 hP (ci := 6) (q0 := 0) rfl rfl, fun U hU hW => ⟨rfl, by rw [hU]; exact hP.sub (ws' := (w_0_1_2_13 q cI cJ cD Tn Ta Wg Wz Ww Wr)) [0, 1, 2, 3] rfl, gEv.warm hW hE⟩⟩ rfl rfl hl.1 rfl (lv_room (Nat.le_of_ble_eq_true rfl)) dL_deBruijn_3 ⟨Nat.zero_le _, Nat.zero_le _⟩) hP hS (gSub rfl) rfl rfl rfl rfl rfl (fun H locs hP hS => ?_)
  cases hf
  refine W.widen (k := 1) (n := 6) (Nat.le_of_ble_eq_true rfl) (Nat.le_of_ble_eq_true rfl) ?_
  exact W.iret hx hb hr (fun t ht hW => ⟨⟨rfl, by rw [ht]; exact hP⟩, hS.F ht⟩) hS.2.2 dL_deBruijn_6
set_option maxHeartbeats 4000000 in
set_option maxRecDepth 100000 in
theorem kL_necklace (l : Launch) (hlt : l.stackTraces = false) (D : va_G) (cI cJ cD : ClassId) (sa : Nat → Nat) (q : Nat → Nat) (hq : gInj 14 q) (N : Nat) (Tn : Int32) (Ta : (Nat → Int32)) (Wg : Int32) (Wz : Int32) (Ww : Int32) (Wr : Int32) (p1 : Int32) (p2 : Int32) (p3 : Int32) (r0 : Int32) (Tn9 : Int32) (Ta9 : (Nat → Int32)) (Wg9 : Int32) (Wz9 : Int32) (Ww9 : Int32) (Wr9 : Int32) (hf : fL_necklace N Tn Ta Wg Wz Ww Wr p1 p2 p3 = some (r0, Tn9, Ta9, Wg9, Wz9, Ww9, Wr9)) : Met l yL_necklace wsL_necklace rL_necklacex (gPx D cI cJ cD sa (gA q [0, 1, 2, 13]) [.ref (q 0), .int p1, .int p2, .int p3] (w_0_1_2_13 q cI cJ cD Tn Ta Wg Wz Ww Wr)) (gQ D (some (.int r0)) (w_0_1_2_13 q cI cJ cD Tn9 Ta9 Wg9 Wz9 Ww9 Wr9) (gA q [0, 1, 2, 13])) 1 6 (gA q [0, 1, 2, 13]) := by
  refine g_ofWH (cc := cL_necklace) (maxL := 5) (ret := (some .int)) (hh := [(0, 7, 8, 14)]) (by decide +kernel) rfl ?_
  intro p e s m args below meth c s₁ B hml hv
  obtain ⟨rfl, hP, hE, hXe⟩ := hv
  have hx := B.exec
  have hb := B.bytes
  have hr := B.returns
  have hts := atoms_spec (ws := wsL_necklace) B.pre
  have hown : s.vm.findClass RL = some m.cls := findClass_of_methodNamed B.named
  have hlocks := B.notSynchronized
  have htab : c.exceptionTable.toList = [⟨0, 7, 8, 14⟩] := vx_table (x := yL_necklace) B (hts _ List.mem_cons_self)
  have hS : va_S (gA q [0, 1, 2, 13]) s.heap s.heap [] := va_S.rf
  have hl := lv_entry ([.ref (q 0), .int p1, .int p2, .int p3]) (n := 5) (Nat.le_of_ble_eq_true rfl)
  rw [lg_entry_eq]
  generalize (lg_sl ([.ref (q 0), .int p1, .int p2, .int p3]) ++ List.replicate (5 - (lg_sl ([.ref (q 0), .int p1, .int p2, .int p3])).length) Slot.unset).toArray = ls at hl ⊢
  have hl : lv_has ls 5 [(0, .ref (q 0)), (1, .int p1), (2, .int p2), (3, .int p3)] := hl
  unfold fL_necklace at hf
  refine lv_aload_n hx hb dL_necklace_0 rfl (lv_at hl 0 rfl) ?_
  refine lv_iload_n hx hb dL_necklace_1 rfl (lv_at hl 1 rfl) ?_
  refine lv_iload_n hx hb dL_necklace_2 rfl (lv_at hl 2 rfl) ?_
  refine lv_iload_n hx hb dL_necklace_3 rfl (lv_at hl 3 rfl) ?_
  rcases bx_some hf with ⟨⟨e4, Tn4, Ta4, Wg4, Wz4, Ww4, Wr4⟩, hc, hf⟩ | ⟨⟨r4, Tn4, Ta4, Wg4, Wz4, Ww4, Wr4⟩, hc, hf⟩
  · try dsimp only at hf
    refine g_callX (ws' := (w_0_1_2_13 q cI cJ cD Tn4 Ta4 Wg4 Wz4 Ww4 Wr4)) hq [0, 1, 2, 13] [0, 1, 2, 13] [.inl 0, .inl 1, .inl 2, .inl 3] (vx_runV (As := [.int p1, .int p2, .int p3]) (rest := []) ⟨hx, hb, hml, hown, hts⟩ (kX8_loadNecklacex l hlt D cI cJ cD sa q hq N Tn Ta Wg Wz Ww Wr p1 p2 p3 e4 Tn4 Ta4 Wg4 Wz4 Ww4 Wr4 hc) (cwV 3 hts gL_necklace_X8_loadNecklace rfl rfl rfl (by decide +kernel) ⟨(Nat.le_of_ble_eq_true rfl), (Nat.le_of_ble_eq_true rfl)⟩) ⟨gPx_blind, va_recv hE.1 hP (ci := 6) (q0 := 0) rfl rfl, fun U hU hW => ⟨rfl, by rw [hU]; exact hP.sub (ws' := (w_0_1_2_13 q cI cJ cD Tn Ta Wg Wz Ww Wr)) [0, 1, 2, 3] rfl, gEv.warm hW hE, gXe.go hW hS (gMono rfl) hXe hU⟩⟩ rfl rfl hl.1 rfl (lv_room (Nat.le_of_ble_eq_true rfl)) dL_necklace_4 ⟨(Nat.le_of_ble_eq_true rfl), (Nat.le_of_ble_eq_true rfl)⟩) hP hS (gSub rfl) rfl rfl rfl rfl (fun ce q9 H locs hP hS hce hcv hcl => ?_)
    by_cases c_1 : e4 = 1
    · have hf := (if_pos c_1).symm.trans hf
      subst c_1
      refine vx_catch (E := "java/lang/IllegalArgumentException") (name := "java/lang/IllegalArgumentException") hown [] ⟨0, 7, 8, 14⟩ [] htab (fun _ h => nomatch h) rfl (by decide) (hts (.classLink RL 14 "java/lang/IllegalArgumentException") (by decide +kernel)) (va_Nw.use rfl (hXe.1.2.1 "java/lang/IllegalArgumentException" (by decide +kernel))) hce hcv hcl ?_
      refine lv_astore (lv' := [(4, .ref q9), (0, .ref (q 0)), (1, .int p1), (2, .int p2), (3, .int p3)]) hx hb dL_necklace_8 hl (by decide) rfl (fun ls hl => ?_)
      refine lv_ldc (v := (-99999 : Int32)) hx hb hown (hts (.constant RL 16 (-99999 : Int32)) (by decide +kernel)) dL_necklace_10 ?_
      cases hf
      refine W.widen (k := 1) (n := 6) (Nat.le_of_ble_eq_true rfl) (Nat.le_of_ble_eq_true rfl) ?_
      exact W.iret hx hb hr (fun t ht hW => ⟨⟨rfl, by rw [ht]; exact hP⟩, hS.F ht⟩) hS.2.2 dL_necklace_12
    have hf := (if_neg c_1).symm.trans hf
    exact nomatch hf
  try dsimp only at hf
  refine g_call0 (ws' := (w_0_1_2_13 q cI cJ cD Tn4 Ta4 Wg4 Wz4 Ww4 Wr4)) (st1 := [.int r4]) hq [0, 1, 2, 13] [0, 1, 2, 13] [.inl 0, .inl 1, .inl 2, .inl 3] (va_runV (As := [.int p1, .int p2, .int p3]) (rest := []) ⟨hx, hb, hml, hown, hts⟩ (kX8_loadNecklace l D cI cJ cD q hq N Tn Ta Wg Wz Ww Wr p1 p2 p3 r4 Tn4 Ta4 Wg4 Wz4 Ww4 Wr4 hc) (cwV 3 hts gL_necklace_X8_loadNecklace rfl rfl rfl (by decide +kernel) ⟨(Nat.le_of_ble_eq_true rfl), (Nat.le_of_ble_eq_true rfl)⟩) ⟨gP_blind, va_recv hE.1 hP (ci := 6) (q0 := 0) rfl rfl, fun U hU hW => ⟨rfl, by rw [hU]; exact hP.sub (ws' := (w_0_1_2_13 q cI cJ cD Tn Ta Wg Wz Ww Wr)) [0, 1, 2, 3] rfl, gEv.warm hW hE⟩⟩ rfl rfl hl.1 rfl (lv_room (Nat.le_of_ble_eq_true rfl)) dL_necklace_4 ⟨Nat.zero_le _, Nat.zero_le _⟩) hP hS (gSub rfl) rfl rfl rfl rfl rfl (fun H locs hP hS => ?_)
  cases hf
  refine W.widen (k := 1) (n := 6) (Nat.le_of_ble_eq_true rfl) (Nat.le_of_ble_eq_true rfl) ?_
  exact W.iret hx hb hr (fun t ht hW => ⟨⟨rfl, by rw [ht]; exact hP⟩, hS.F ht⟩) hS.2.2 dL_necklace_7
set_option maxHeartbeats 4000000 in
set_option maxRecDepth 100000 in
theorem kL_act (l : Launch) (hlt : l.stackTraces = false) (D : va_G) (cI cJ cD : ClassId) (sa : Nat → Nat) (q : Nat → Nat) (hq : gInj 14 q) (N : Nat) (Tn : Int32) (Ta : (Nat → Int32)) (Wg : Int32) (Wz : Int32) (Ww : Int32) (Wr : Int32) (p1 : Int32) (r0 : Int32) (Tn9 : Int32) (Ta9 : (Nat → Int32)) (Wg9 : Int32) (Wz9 : Int32) (Ww9 : Int32) (Wr9 : Int32) (hf : fL_act N Tn Ta Wg Wz Ww Wr p1 = some (r0, Tn9, Ta9, Wg9, Wz9, Ww9, Wr9)) : Met l yL_act wsL_act rL_actx (gPx D cI cJ cD sa (gA q [0, 1, 2, 13]) [.ref (q 0), .int p1] (w_0_1_2_13 q cI cJ cD Tn Ta Wg Wz Ww Wr)) (gQ D (some (.int r0)) (w_0_1_2_13 q cI cJ cD Tn9 Ta9 Wg9 Wz9 Ww9 Wr9) (gA q [0, 1, 2, 13])) 1 6 (gA q [0, 1, 2, 13]) := by
  refine Met.ofW (cc := cL_act) (maxL := 6) (ret := (some .int)) (by decide +kernel) rfl ?_
  intro p e s m args below meth c s₁ B hml hv
  obtain ⟨rfl, hP, hE, hXe⟩ := hv
  have hx := B.exec
  have hb := B.bytes
  have hr := B.returns
  have hts := atoms_spec (ws := wsL_act) B.pre
  have hown : s.vm.findClass RL = some m.cls := findClass_of_methodNamed B.named
  have hlocks := B.notSynchronized
  have hS : va_S (gA q [0, 1, 2, 13]) s.heap s.heap [] := va_S.rf
  have hl := lv_entry ([.ref (q 0), .int p1]) (n := 6) (Nat.le_of_ble_eq_true rfl)
  rw [lg_entry_eq]
  generalize (lg_sl ([.ref (q 0), .int p1]) ++ List.replicate (6 - (lg_sl ([.ref (q 0), .int p1])).length) Slot.unset).toArray = ls at hl ⊢
  have hl : lv_has ls 6 [(0, .ref (q 0)), (1, .int p1)] := hl
  have J132 : ∀ (Tn : Int32) (Ta : (Nat → Int32)) (Wg : Int32) (Wz : Int32) (Ww : Int32) (Wr : Int32) (x4 : Int32) (x5 : Int32), fL_act_J132 N Tn Ta Wg Wz Ww Wr x4 x5 = some (r0, Tn9, Ta9, Wg9, Wz9, Ww9, Wr9) → ∀ (H : Heap) (locs : List Loc), va_P D vwCl (w_0_1_2_13 q cI cJ cD Tn Ta Wg Wz Ww Wr) H → va_S (gA q [0, 1, 2, 13]) s.heap H locs → ∀ ls : Array Slot, lv_has ls 6 [(0, .ref (q 0)), (4, .int x4), (5, .int x5)] → W p l e (headSpec wsL_act rL_actx).room s m ([.ref (q 0), .int p1] : List Value).toArray below meth c H locs 0 0 (MQ below (gQ D (some (.int r0)) (w_0_1_2_13 q cI cJ cD Tn9 Ta9 Wg9 Wz9 Ww9 Wr9) (gA q [0, 1, 2, 13])) ([.ref (q 0), .int p1] : List Value).toArray s 1 6 (gA q [0, 1, 2, 13])) (F0 m 132 ls []) := by
    intro Tn Ta Wg Wz Ww Wr x4 x5 hf H locs hP hS ls hl
    unfold fL_act_J132 at hf
    refine lv_aload_n hx hb dL_act_132 rfl (lv_at hl 0 rfl) ?_
    refine lv_iload hx hb dL_act_133 (lv_at hl 2 rfl) ?_
    refine lv_iload hx hb dL_act_135 (lv_at hl 1 rfl) ?_
    obtain ⟨⟨r137, Tn137, Ta137⟩, hc, hf⟩ := bn_some hf
    try dsimp only at hf
    refine g_call (mc := 1) (ms := 6) (ws' := (w_0_1_2_13 q cI cJ cD Tn137 Ta137 Wg Wz Ww Wr)) (st1 := [.int r137]) hq [0, 1, 2, 13] [0, 1, 2] [.inl 0, .inl 1, .inl 2, .inr 3] (vx_runSW (As := [.ref (q 0), .int x5, .int x4]) (rest := []) ⟨hx, hb, hml, hown, hts⟩ (kL_insert l hlt D cI cJ cD sa q hq N Tn Ta x5 x4 r137 Tn137 Ta137 hc) (vx_cwSW 3 hts gL_act_L_insert rfl rfl rfl (by decide +kernel) ⟨(Nat.le_of_ble_eq_true rfl), (Nat.le_of_ble_eq_true rfl)⟩) ⟨gPx_blind, fun U hU hW => ⟨rfl, by rw [hU]; exact hP.sub (ws' := (w_0_1_2 q cI cJ cD Tn Ta)) [0, 1, 2] rfl, gEv.warm hW hE, gXe.go hW hS (gMono rfl) hXe hU⟩⟩ rfl rfl hl.1 rfl (lv_room (Nat.le_of_ble_eq_true rfl)) dL_act_137 ⟨(Nat.le_of_ble_eq_true rfl), (Nat.le_of_ble_eq_true rfl)⟩) hP hS (gSub rfl) rfl rfl rfl rfl rfl (fun H locs hP hS => ?_)
    cases hf
    refine W.widen (k := 1) (n := 6) (Nat.le_of_ble_eq_true rfl) (Nat.le_of_ble_eq_true rfl) ?_
    exact W.iret hx hb hr (fun t ht hW => ⟨⟨rfl, by rw [ht]; exact hP⟩, hS.F ht⟩) hS.2.2 dL_act_140
  have J222 : ∀ (Tn : Int32) (Ta : (Nat → Int32)) (Wg : Int32) (Wz : Int32) (Ww : Int32) (Wr : Int32) (y0 : Int32), fL_act_J222 N Tn Ta Wg Wz Ww Wr y0 = some (r0, Tn9, Ta9, Wg9, Wz9, Ww9, Wr9) → ∀ (H : Heap) (locs : List Loc), va_P D vwCl (w_0_1_2_13 q cI cJ cD Tn Ta Wg Wz Ww Wr) H → va_S (gA q [0, 1, 2, 13]) s.heap H locs → ∀ ls : Array Slot, lv_has ls 6 [] → W p l e (headSpec wsL_act rL_actx).room s m ([.ref (q 0), .int p1] : List Value).toArray below meth c H locs 0 0 (MQ below (gQ D (some (.int r0)) (w_0_1_2_13 q cI cJ cD Tn9 Ta9 Wg9 Wz9 Ww9 Wr9) (gA q [0, 1, 2, 13])) ([.ref (q 0), .int p1] : List Value).toArray s 1 6 (gA q [0, 1, 2, 13])) (F0 m 222 ls [.int y0]) := by
    intro Tn Ta Wg Wz Ww Wr y0 hf H locs hP hS ls hl
    unfold fL_act_J222 at hf
    cases hf
    refine W.widen (k := 1) (n := 6) (Nat.le_of_ble_eq_true rfl) (Nat.le_of_ble_eq_true rfl) ?_
    exact W.iret hx hb hr (fun t ht hW => ⟨⟨rfl, by rw [ht]; exact hP⟩, hS.F ht⟩) hS.2.2 dL_act_222
  have J201 : ∀ (Tn : Int32) (Ta : (Nat → Int32)) (Wg : Int32) (Wz : Int32) (Ww : Int32) (Wr : Int32) (x1 : Int32), fL_act_J201 N Tn Ta Wg Wz Ww Wr x1 = some (r0, Tn9, Ta9, Wg9, Wz9, Ww9, Wr9) → ∀ (H : Heap) (locs : List Loc), va_P D vwCl (w_0_1_2_13 q cI cJ cD Tn Ta Wg Wz Ww Wr) H → va_S (gA q [0, 1, 2, 13]) s.heap H locs → ∀ ls : Array Slot, lv_has ls 6 [(0, .ref (q 0)), (1, .int x1)] → W p l e (headSpec wsL_act rL_actx).room s m ([.ref (q 0), .int p1] : List Value).toArray below meth c H locs 0 0 (MQ below (gQ D (some (.int r0)) (w_0_1_2_13 q cI cJ cD Tn9 Ta9 Wg9 Wz9 Ww9 Wr9) (gA q [0, 1, 2, 13])) ([.ref (q 0), .int p1] : List Value).toArray s 1 6 (gA q [0, 1, 2, 13])) (F0 m 201 ls []) := by
    intro Tn Ta Wg Wz Ww Wr x1 hf H locs hP hS ls hl
    unfold fL_act_J201 at hf
    refine lv_iload_n hx hb dL_act_201 rfl (lv_at hl 1 rfl) ?_
    refine lv_bipush (v := (12 : Int32)) hx hb dL_act_202 (by decide) ?_
    refine lv_ishr hx hb dL_act_204 ?_
    refine lv_bipush (v := (7 : Int32)) hx hb dL_act_205 (by decide) ?_
    refine lv_iand hx hb dL_act_207 ?_
    refine lv_if_ne (tgt := 218) hx hb dL_act_208 (by decide) (fun c_1 => ?_) (fun c_1 => ?_)
    · have hf := (if_neg c_1).symm.trans hf
      refine lv_aload_n hx hb dL_act_218 rfl (lv_at hl 0 rfl) ?_
      obtain ⟨⟨r219, Ta219⟩, hc, hf⟩ := bn_some hf
      try dsimp only at hf
      refine g_call0 (ws' := (w_0_1_2_13 q cI cJ cD Tn Ta219 Wg Wz Ww Wr)) (st1 := [.int r219]) hq [0, 1, 2, 13] [0, 1, 2] [.inl 0, .inl 1, .inl 2, .inr 3] (va_runV (As := []) (rest := []) ⟨hx, hb, hml, hown, hts⟩ (kX8_reverse l D cI cJ cD q hq N Tn Ta r219 Ta219 hc) (cwV 0 hts gL_act_X8_reverse rfl rfl rfl (by decide +kernel) ⟨(Nat.le_of_ble_eq_true rfl), (Nat.le_of_ble_eq_true rfl)⟩) ⟨gP_blind, va_recv hE.1 hP (ci := 6) (q0 := 0) rfl rfl, fun U hU hW => ⟨rfl, by rw [hU]; exact hP.sub (ws' := (w_0_1_2 q cI cJ cD Tn Ta)) [0, 1, 2] rfl, gEv.warm hW hE⟩⟩ rfl rfl hl.1 rfl (lv_room (Nat.le_of_ble_eq_true rfl)) dL_act_219 ⟨Nat.zero_le _, Nat.zero_le _⟩) hP hS (gSub rfl) rfl rfl rfl rfl rfl (fun H locs hP hS => ?_)
      exact J222 Tn Ta219 Wg Wz Ww Wr r219 hf _ _ hP hS _ (lv_sub hl [] rfl)
    · have hf := (if_pos c_1).symm.trans hf
      refine lv_aload_n hx hb dL_act_211 rfl (lv_at hl 0 rfl) ?_
      obtain ⟨⟨r212, Tn212⟩, hc, hf⟩ := bn_some hf
      try dsimp only at hf
      refine g_call0 (ws' := (w_0_1_2_13 q cI cJ cD Tn212 Ta Wg Wz Ww Wr)) (st1 := [.int r212]) hq [0, 1, 2, 13] [0, 1] [.inl 0, .inl 1, .inr 2, .inr 3] (va_runV (As := []) (rest := []) ⟨hx, hb, hml, hown, hts⟩ (kX8_clear l D cI cJ cD q hq N Tn r212 Tn212 hc) (cwV 0 hts gL_act_X8_clear rfl rfl rfl (by decide +kernel) ⟨(Nat.le_of_ble_eq_true rfl), (Nat.le_of_ble_eq_true rfl)⟩) ⟨gP_blind, va_recv hE.1 hP (ci := 6) (q0 := 0) rfl rfl, fun U hU hW => ⟨rfl, by rw [hU]; exact hP.sub (ws' := (w_0_1 q cI cJ cD Tn)) [0, 1] rfl, gEv.warm hW hE⟩⟩ rfl rfl hl.1 rfl (lv_room (Nat.le_of_ble_eq_true rfl)) dL_act_212 ⟨Nat.zero_le _, Nat.zero_le _⟩) hP hS (gSub rfl) rfl rfl rfl rfl rfl (fun H locs hP hS => ?_)
      refine lv_goto (tgt := 222) hx hb dL_act_215 (by decide) ?_
      exact J222 Tn212 Ta Wg Wz Ww Wr r212 hf _ _ hP hS _ (lv_sub hl [] rfl)
  have J300 : ∀ (Tn : Int32) (Ta : (Nat → Int32)) (Wg : Int32) (Wz : Int32) (Ww : Int32) (Wr : Int32) (x4 : Int32), fL_act_J300 N Tn Ta Wg Wz Ww Wr x4 = some (r0, Tn9, Ta9, Wg9, Wz9, Ww9, Wr9) → ∀ (H : Heap) (locs : List Loc), va_P D vwCl (w_0_1_2_13 q cI cJ cD Tn Ta Wg Wz Ww Wr) H → va_S (gA q [0, 1, 2, 13]) s.heap H locs → ∀ ls : Array Slot, lv_has ls 6 [(0, .ref (q 0)), (4, .int x4)] → W p l e (headSpec wsL_act rL_actx).room s m ([.ref (q 0), .int p1] : List Value).toArray below meth c H locs 0 0 (MQ below (gQ D (some (.int r0)) (w_0_1_2_13 q cI cJ cD Tn9 Ta9 Wg9 Wz9 Ww9 Wr9) (gA q [0, 1, 2, 13])) ([.ref (q 0), .int p1] : List Value).toArray s 1 6 (gA q [0, 1, 2, 13])) (F0 m 300 ls []) := by
    intro Tn Ta Wg Wz Ww Wr x4 hf H locs hP hS ls hl
    unfold fL_act_J300 at hf
    refine lv_aload_n hx hb dL_act_300 rfl (lv_at hl 0 rfl) ?_
    refine lv_iload hx hb dL_act_301 (lv_at hl 1 rfl) ?_
    obtain ⟨⟨r303, Tn303, Ta303⟩, hc, hf⟩ := bn_some hf
    try dsimp only at hf
    refine g_call (mc := 1) (ms := 6) (ws' := (w_0_1_2_13 q cI cJ cD Tn303 Ta303 Wg Wz Ww Wr)) (st1 := [.int r303]) hq [0, 1, 2, 13] [0, 1, 2] [.inl 0, .inl 1, .inl 2, .inr 3] (vx_runSW (As := [.ref (q 0), .int x4]) (rest := []) ⟨hx, hb, hml, hown, hts⟩ (kL_append l hlt D cI cJ cD sa q hq N Tn Ta x4 r303 Tn303 Ta303 hc) (vx_cwSW 2 hts gL_act_L_append rfl rfl rfl (by decide +kernel) ⟨(Nat.le_of_ble_eq_true rfl), (Nat.le_of_ble_eq_true rfl)⟩) ⟨gPx_blind, fun U hU hW => ⟨rfl, by rw [hU]; exact hP.sub (ws' := (w_0_1_2 q cI cJ cD Tn Ta)) [0, 1, 2] rfl, gEv.warm hW hE, gXe.go hW hS (gMono rfl) hXe hU⟩⟩ rfl rfl hl.1 rfl (lv_room (Nat.le_of_ble_eq_true rfl)) dL_act_303 ⟨(Nat.le_of_ble_eq_true rfl), (Nat.le_of_ble_eq_true rfl)⟩) hP hS (gSub rfl) rfl rfl rfl rfl rfl (fun H locs hP hS => ?_)
    cases hf
    refine W.widen (k := 1) (n := 6) (Nat.le_of_ble_eq_true rfl) (Nat.le_of_ble_eq_true rfl) ?_
    exact W.iret hx hb hr (fun t ht hW => ⟨⟨rfl, by rw [ht]; exact hP⟩, hS.F ht⟩) hS.2.2 dL_act_306
  have J141 : ∀ (Tn : Int32) (Ta : (Nat → Int32)) (Wg : Int32) (Wz : Int32) (Ww : Int32) (Wr : Int32) (x4 : Int32) (x5 : Int32), fL_act_J141 N Tn Ta Wg Wz Ww Wr x4 x5 = some (r0, Tn9, Ta9, Wg9, Wz9, Ww9, Wr9) → ∀ (H : Heap) (locs : List Loc), va_P D vwCl (w_0_1_2_13 q cI cJ cD Tn Ta Wg Wz Ww Wr) H → va_S (gA q [0, 1, 2, 13]) s.heap H locs → ∀ ls : Array Slot, lv_has ls 6 [(0, .ref (q 0)), (4, .int x4), (5, .int x5)] → W p l e (headSpec wsL_act rL_actx).room s m ([.ref (q 0), .int p1] : List Value).toArray below meth c H locs 0 0 (MQ below (gQ D (some (.int r0)) (w_0_1_2_13 q cI cJ cD Tn9 Ta9 Wg9 Wz9 Ww9 Wr9) (gA q [0, 1, 2, 13])) ([.ref (q 0), .int p1] : List Value).toArray s 1 6 (gA q [0, 1, 2, 13])) (F0 m 141 ls []) := by
    intro Tn Ta Wg Wz Ww Wr x4 x5 hf H locs hP hS ls hl
    unfold fL_act_J141 at hf
    refine lv_aload_n hx hb dL_act_141 rfl (lv_at hl 0 rfl) ?_
    refine lv_iload hx hb dL_act_142 (lv_at hl 2 rfl) ?_
    refine lv_iload hx hb dL_act_144 (lv_at hl 1 rfl) ?_
    obtain ⟨⟨r146, Ta146⟩, hc, hf⟩ := bn_some hf
    try dsimp only at hf
    refine g_call (mc := 1) (ms := 6) (ws' := (w_0_1_2_13 q cI cJ cD Tn Ta146 Wg Wz Ww Wr)) (st1 := [.int r146]) hq [0, 1, 2, 13] [0, 1, 2] [.inl 0, .inl 1, .inl 2, .inr 3] (vx_runSW (As := [.ref (q 0), .int x5, .int x4]) (rest := []) ⟨hx, hb, hml, hown, hts⟩ (kL_set l hlt D cI cJ cD sa q hq N Tn Ta x5 x4 r146 Ta146 hc) (vx_cwSW 3 hts gL_act_L_set rfl rfl rfl (by decide +kernel) ⟨(Nat.le_of_ble_eq_true rfl), (Nat.le_of_ble_eq_true rfl)⟩) ⟨gPx_blind, fun U hU hW => ⟨rfl, by rw [hU]; exact hP.sub (ws' := (w_0_1_2 q cI cJ cD Tn Ta)) [0, 1, 2] rfl, gEv.warm hW hE, gXe.go hW hS (gMono rfl) hXe hU⟩⟩ rfl rfl hl.1 rfl (lv_room (Nat.le_of_ble_eq_true rfl)) dL_act_146 ⟨(Nat.le_of_ble_eq_true rfl), (Nat.le_of_ble_eq_true rfl)⟩) hP hS (gSub rfl) rfl rfl rfl rfl rfl (fun H locs hP hS => ?_)
    cases hf
    refine W.widen (k := 1) (n := 6) (Nat.le_of_ble_eq_true rfl) (Nat.le_of_ble_eq_true rfl) ?_
    exact W.iret hx hb hr (fun t ht hW => ⟨⟨rfl, by rw [ht]; exact hP⟩, hS.F ht⟩) hS.2.2 dL_act_149
  have J180 : ∀ (Tn : Int32) (Ta : (Nat → Int32)) (Wg : Int32) (Wz : Int32) (Ww : Int32) (Wr : Int32) (x1 : Int32) (x5 : Int32), fL_act_J180 N Tn Ta Wg Wz Ww Wr x1 x5 = some (r0, Tn9, Ta9, Wg9, Wz9, Ww9, Wr9) → ∀ (H : Heap) (locs : List Loc), va_P D vwCl (w_0_1_2_13 q cI cJ cD Tn Ta Wg Wz Ww Wr) H → va_S (gA q [0, 1, 2, 13]) s.heap H locs → ∀ ls : Array Slot, lv_has ls 6 [(0, .ref (q 0)), (1, .int x1), (5, .int x5)] → W p l e (headSpec wsL_act rL_actx).room s m ([.ref (q 0), .int p1] : List Value).toArray below meth c H locs 0 0 (MQ below (gQ D (some (.int r0)) (w_0_1_2_13 q cI cJ cD Tn9 Ta9 Wg9 Wz9 Ww9 Wr9) (gA q [0, 1, 2, 13])) ([.ref (q 0), .int p1] : List Value).toArray s 1 6 (gA q [0, 1, 2, 13])) (F0 m 180 ls []) := by
    intro Tn Ta Wg Wz Ww Wr x1 x5 hf H locs hP hS ls hl
    unfold fL_act_J180 at hf
    refine lv_aload_n hx hb dL_act_180 rfl (lv_at hl 0 rfl) ?_
    refine lv_iload hx hb dL_act_181 (lv_at hl 2 rfl) ?_
    refine lv_iload hx hb dL_act_183 (lv_at hl 2 rfl) ?_
    refine lv_iconst (v := (1 : Int32)) hx hb dL_act_185 (by decide) ?_
    refine lv_iadd hx hb dL_act_186 ?_
    refine lv_iload_n hx hb dL_act_187 rfl (lv_at hl 1 rfl) ?_
    refine lv_bipush (v := (14 : Int32)) hx hb dL_act_188 (by decide) ?_
    refine lv_ishr hx hb dL_act_190 ?_
    refine lv_bipush (v := (6 : Int32)) hx hb dL_act_191 (by decide) ?_
    obtain ⟨r193, hc, hf⟩ := bn_some hf
    try dsimp only at hf
    refine g_call0 (ws' := (w_0_1_2_13 q cI cJ cD Tn Ta Wg Wz Ww Wr)) (st1 := [.int r193, .int (x5 + (1 : Int32)), .int x5, .ref (q 0)]) hq [0, 1, 2, 13] [] [.inr 0, .inr 1, .inr 2, .inr 3] (va_runS (As := [.int (x1 >>> ((14 : Int32) &&& 31)), .int (6 : Int32)]) (rest := [.int (x5 + (1 : Int32)), .int x5, .ref (q 0)]) ⟨hx, hb, hml, hown, hts⟩ (kL_low l D cI cJ cD q hq N (x1 >>> ((14 : Int32) &&& 31)) (6 : Int32) r193 hc) (va_cwS 2 hts gL_act_L_low rfl rfl rfl (by decide +kernel) ⟨(Nat.le_of_ble_eq_true rfl), (Nat.le_of_ble_eq_true rfl)⟩) ⟨gP_blind, fun U hU hW => ⟨rfl, by rw [hU]; exact hP.sub (ws' := (w_0none q cI cJ cD)) [] rfl, gEv.warm hW hE⟩⟩ rfl rfl hl.1 rfl (lv_room (Nat.le_of_ble_eq_true rfl)) dL_act_193 ⟨Nat.zero_le _, Nat.zero_le _⟩) hP hS (gSub rfl) rfl rfl rfl rfl rfl (fun H locs hP hS => ?_)
    refine lv_iadd hx hb dL_act_196 ?_
    obtain ⟨⟨r197, Tn197, Ta197⟩, hc, hf⟩ := bn_some hf
    try dsimp only at hf
    refine g_call (mc := 1) (ms := 6) (ws' := (w_0_1_2_13 q cI cJ cD Tn197 Ta197 Wg Wz Ww Wr)) (st1 := [.int r197]) hq [0, 1, 2, 13] [0, 1, 2] [.inl 0, .inl 1, .inl 2, .inr 3] (vx_runSW (As := [.ref (q 0), .int x5, .int ((x5 + (1 : Int32)) + r193)]) (rest := []) ⟨hx, hb, hml, hown, hts⟩ (kL_copy l hlt D cI cJ cD sa q hq N Tn Ta x5 ((x5 + (1 : Int32)) + r193) r197 Tn197 Ta197 hc) (vx_cwSW 3 hts gL_act_L_copy rfl rfl rfl (by decide +kernel) ⟨(Nat.le_of_ble_eq_true rfl), (Nat.le_of_ble_eq_true rfl)⟩) ⟨gPx_blind, fun U hU hW => ⟨rfl, by rw [hU]; exact hP.sub (ws' := (w_0_1_2 q cI cJ cD Tn Ta)) [0, 1, 2] rfl, gEv.warm hW hE, gXe.go hW hS (gMono rfl) hXe hU⟩⟩ rfl rfl hl.1 rfl (lv_room (Nat.le_of_ble_eq_true rfl)) dL_act_197 ⟨(Nat.le_of_ble_eq_true rfl), (Nat.le_of_ble_eq_true rfl)⟩) hP hS (gSub rfl) rfl rfl rfl rfl rfl (fun H locs hP hS => ?_)
    cases hf
    refine W.widen (k := 1) (n := 6) (Nat.le_of_ble_eq_true rfl) (Nat.le_of_ble_eq_true rfl) ?_
    exact W.iret hx hb hr (fun t ht hW => ⟨⟨rfl, by rw [ht]; exact hP⟩, hS.F ht⟩) hS.2.2 dL_act_200
  have J150 : ∀ (Tn : Int32) (Ta : (Nat → Int32)) (Wg : Int32) (Wz : Int32) (Ww : Int32) (Wr : Int32) (x5 : Int32), fL_act_J150 N Tn Ta Wg Wz Ww Wr x5 = some (r0, Tn9, Ta9, Wg9, Wz9, Ww9, Wr9) → ∀ (H : Heap) (locs : List Loc), va_P D vwCl (w_0_1_2_13 q cI cJ cD Tn Ta Wg Wz Ww Wr) H → va_S (gA q [0, 1, 2, 13]) s.heap H locs → ∀ ls : Array Slot, lv_has ls 6 [(0, .ref (q 0)), (5, .int x5)] → W p l e (headSpec wsL_act rL_actx).room s m ([.ref (q 0), .int p1] : List Value).toArray below meth c H locs 0 0 (MQ below (gQ D (some (.int r0)) (w_0_1_2_13 q cI cJ cD Tn9 Ta9 Wg9 Wz9 Ww9 Wr9) (gA q [0, 1, 2, 13])) ([.ref (q 0), .int p1] : List Value).toArray s 1 6 (gA q [0, 1, 2, 13])) (F0 m 150 ls []) := by
    intro Tn Ta Wg Wz Ww Wr x5 hf H locs hP hS ls hl
    unfold fL_act_J150 at hf
    refine lv_aload_n hx hb dL_act_150 rfl (lv_at hl 0 rfl) ?_
    refine lv_iload hx hb dL_act_151 (lv_at hl 1 rfl) ?_
    obtain ⟨⟨r153, Tn153, Ta153⟩, hc, hf⟩ := bn_some hf
    try dsimp only at hf
    refine g_call (mc := 1) (ms := 6) (ws' := (w_0_1_2_13 q cI cJ cD Tn153 Ta153 Wg Wz Ww Wr)) (st1 := [.int r153]) hq [0, 1, 2, 13] [0, 1, 2] [.inl 0, .inl 1, .inl 2, .inr 3] (vx_runSW (As := [.ref (q 0), .int x5]) (rest := []) ⟨hx, hb, hml, hown, hts⟩ (kL_remove l hlt D cI cJ cD sa q hq N Tn Ta x5 r153 Tn153 Ta153 hc) (vx_cwSW 2 hts gL_act_L_remove rfl rfl rfl (by decide +kernel) ⟨(Nat.le_of_ble_eq_true rfl), (Nat.le_of_ble_eq_true rfl)⟩) ⟨gPx_blind, fun U hU hW => ⟨rfl, by rw [hU]; exact hP.sub (ws' := (w_0_1_2 q cI cJ cD Tn Ta)) [0, 1, 2] rfl, gEv.warm hW hE, gXe.go hW hS (gMono rfl) hXe hU⟩⟩ rfl rfl hl.1 rfl (lv_room (Nat.le_of_ble_eq_true rfl)) dL_act_153 ⟨(Nat.le_of_ble_eq_true rfl), (Nat.le_of_ble_eq_true rfl)⟩) hP hS (gSub rfl) rfl rfl rfl rfl rfl (fun H locs hP hS => ?_)
    cases hf
    refine W.widen (k := 1) (n := 6) (Nat.le_of_ble_eq_true rfl) (Nat.le_of_ble_eq_true rfl) ?_
    exact W.iret hx hb hr (fun t ht hW => ⟨⟨rfl, by rw [ht]; exact hP⟩, hS.F ht⟩) hS.2.2 dL_act_156
  have J173 : ∀ (Tn : Int32) (Ta : (Nat → Int32)) (Wg : Int32) (Wz : Int32) (Ww : Int32) (Wr : Int32) (y1 : Int32) (y2 : Int32), fL_act_J173 N Tn Ta Wg Wz Ww Wr y1 y2 = some (r0, Tn9, Ta9, Wg9, Wz9, Ww9, Wr9) → ∀ (H : Heap) (locs : List Loc), va_P D vwCl (w_0_1_2_13 q cI cJ cD Tn Ta Wg Wz Ww Wr) H → va_S (gA q [0, 1, 2, 13]) s.heap H locs → ∀ ls : Array Slot, lv_has ls 6 [] → W p l e (headSpec wsL_act rL_actx).room s m ([.ref (q 0), .int p1] : List Value).toArray below meth c H locs 0 0 (MQ below (gQ D (some (.int r0)) (w_0_1_2_13 q cI cJ cD Tn9 Ta9 Wg9 Wz9 Ww9 Wr9) (gA q [0, 1, 2, 13])) ([.ref (q 0), .int p1] : List Value).toArray s 1 6 (gA q [0, 1, 2, 13])) (F0 m 173 ls [.int y2, .int y1, .ref (q 0)]) := by
    intro Tn Ta Wg Wz Ww Wr y1 y2 hf H locs hP hS ls hl
    unfold fL_act_J173 at hf
    obtain ⟨r173, hc, hf⟩ := bn_some hf
    try dsimp only at hf
    refine g_call0 (ws' := (w_0_1_2_13 q cI cJ cD Tn Ta Wg Wz Ww Wr)) (st1 := [.int r173, .ref (q 0)]) hq [0, 1, 2, 13] [] [.inr 0, .inr 1, .inr 2, .inr 3] (va_runS (As := [.int y1, .int y2]) (rest := [.ref (q 0)]) ⟨hx, hb, hml, hown, hts⟩ (kL_low l D cI cJ cD q hq N y1 y2 r173 hc) (va_cwS 2 hts gL_act_L_low rfl rfl rfl (by decide +kernel) ⟨(Nat.le_of_ble_eq_true rfl), (Nat.le_of_ble_eq_true rfl)⟩) ⟨gP_blind, fun U hU hW => ⟨rfl, by rw [hU]; exact hP.sub (ws' := (w_0none q cI cJ cD)) [] rfl, gEv.warm hW hE⟩⟩ rfl rfl hl.1 rfl (lv_room (Nat.le_of_ble_eq_true rfl)) dL_act_173 ⟨Nat.zero_le _, Nat.zero_le _⟩) hP hS (gSub rfl) rfl rfl rfl rfl rfl (fun H locs hP hS => ?_)
    obtain ⟨⟨r176, Ta176⟩, hc, hf⟩ := bn_some hf
    try dsimp only at hf
    refine g_call (mc := 1) (ms := 6) (ws' := (w_0_1_2_13 q cI cJ cD Tn Ta176 Wg Wz Ww Wr)) (st1 := [.int r176]) hq [0, 1, 2, 13] [0, 1, 2] [.inl 0, .inl 1, .inl 2, .inr 3] (vx_runSW (As := [.ref (q 0), .int r173]) (rest := []) ⟨hx, hb, hml, hown, hts⟩ (kL_rotate l hlt D cI cJ cD sa q hq N Tn Ta r173 r176 Ta176 hc) (vx_cwSW 2 hts gL_act_L_rotate rfl rfl rfl (by decide +kernel) ⟨(Nat.le_of_ble_eq_true rfl), (Nat.le_of_ble_eq_true rfl)⟩) ⟨gPx_blind, fun U hU hW => ⟨rfl, by rw [hU]; exact hP.sub (ws' := (w_0_1_2 q cI cJ cD Tn Ta)) [0, 1, 2] rfl, gEv.warm hW hE, gXe.go hW hS (gMono rfl) hXe hU⟩⟩ rfl rfl hl.1 rfl (lv_room (Nat.le_of_ble_eq_true rfl)) dL_act_176 ⟨(Nat.le_of_ble_eq_true rfl), (Nat.le_of_ble_eq_true rfl)⟩) hP hS (gSub rfl) rfl rfl rfl rfl rfl (fun H locs hP hS => ?_)
    cases hf
    refine W.widen (k := 1) (n := 6) (Nat.le_of_ble_eq_true rfl) (Nat.le_of_ble_eq_true rfl) ?_
    exact W.iret hx hb hr (fun t ht hW => ⟨⟨rfl, by rw [ht]; exact hP⟩, hS.F ht⟩) hS.2.2 dL_act_179
  have J157 : ∀ (Tn : Int32) (Ta : (Nat → Int32)) (Wg : Int32) (Wz : Int32) (Ww : Int32) (Wr : Int32) (x1 : Int32) (x2 : Int32), fL_act_J157 N Tn Ta Wg Wz Ww Wr x1 x2 = some (r0, Tn9, Ta9, Wg9, Wz9, Ww9, Wr9) → ∀ (H : Heap) (locs : List Loc), va_P D vwCl (w_0_1_2_13 q cI cJ cD Tn Ta Wg Wz Ww Wr) H → va_S (gA q [0, 1, 2, 13]) s.heap H locs → ∀ ls : Array Slot, lv_has ls 6 [(0, .ref (q 0)), (1, .int x1), (2, .int x2)] → W p l e (headSpec wsL_act rL_actx).room s m ([.ref (q 0), .int p1] : List Value).toArray below meth c H locs 0 0 (MQ below (gQ D (some (.int r0)) (w_0_1_2_13 q cI cJ cD Tn9 Ta9 Wg9 Wz9 Ww9 Wr9) (gA q [0, 1, 2, 13])) ([.ref (q 0), .int p1] : List Value).toArray s 1 6 (gA q [0, 1, 2, 13])) (F0 m 157 ls []) := by
    intro Tn Ta Wg Wz Ww Wr x1 x2 hf H locs hP hS ls hl
    unfold fL_act_J157 at hf
    refine lv_aload_n hx hb dL_act_157 rfl (lv_at hl 0 rfl) ?_
    refine lv_iload_n hx hb dL_act_158 rfl (lv_at hl 1 rfl) ?_
    refine lv_bipush (v := (8 : Int32)) hx hb dL_act_159 (by decide) ?_
    refine lv_ishr hx hb dL_act_161 ?_
    refine lv_iload_n hx hb dL_act_162 rfl (lv_at hl 2 rfl) ?_
    refine lv_if_eq (tgt := 171) hx hb dL_act_163 (by decide) (fun c_2 => ?_) (fun c_2 => ?_)
    · have hf := (if_pos c_2).symm.trans hf
      refine lv_bipush (v := (64 : Int32)) hx hb dL_act_171 (by decide) ?_
      exact J173 Tn Ta Wg Wz Ww Wr (x1 >>> ((8 : Int32) &&& 31)) (64 : Int32) hf _ _ hP hS _ (lv_sub hl [] rfl)
    · have hf := (if_neg c_2).symm.trans hf
      refine lv_bipush (v := (70 : Int32)) hx hb dL_act_166 (by decide) ?_
      refine lv_goto (tgt := 173) hx hb dL_act_168 (by decide) ?_
      exact J173 Tn Ta Wg Wz Ww Wr (x1 >>> ((8 : Int32) &&& 31)) (70 : Int32) hf _ _ hP hS _ (lv_sub hl [] rfl)
  have J299 : ∀ (Tn : Int32) (Ta : (Nat → Int32)) (Wg : Int32) (Wz : Int32) (Ww : Int32) (Wr : Int32) (y0 : Int32), fL_act_J299 N Tn Ta Wg Wz Ww Wr y0 = some (r0, Tn9, Ta9, Wg9, Wz9, Ww9, Wr9) → ∀ (H : Heap) (locs : List Loc), va_P D vwCl (w_0_1_2_13 q cI cJ cD Tn Ta Wg Wz Ww Wr) H → va_S (gA q [0, 1, 2, 13]) s.heap H locs → ∀ ls : Array Slot, lv_has ls 6 [] → W p l e (headSpec wsL_act rL_actx).room s m ([.ref (q 0), .int p1] : List Value).toArray below meth c H locs 1 6 (MQ below (gQ D (some (.int r0)) (w_0_1_2_13 q cI cJ cD Tn9 Ta9 Wg9 Wz9 Ww9 Wr9) (gA q [0, 1, 2, 13])) ([.ref (q 0), .int p1] : List Value).toArray s 1 6 (gA q [0, 1, 2, 13])) (F0 m 299 ls [.int y0]) := by
    intro Tn Ta Wg Wz Ww Wr y0 hf H locs hP hS ls hl
    unfold fL_act_J299 at hf
    cases hf
    refine W.widen (k := 1) (n := 6) (Nat.le_of_ble_eq_true rfl) (Nat.le_of_ble_eq_true rfl) ?_
    exact W.iret hx hb hr (fun t ht hW => ⟨⟨rfl, by rw [ht]; exact hP⟩, hS.F ht⟩) hS.2.2 dL_act_299
  have J293 : ∀ (Tn : Int32) (Ta : (Nat → Int32)) (Wg : Int32) (Wz : Int32) (Ww : Int32) (Wr : Int32) (y1 : Int32) (y2 : Int32) (y3 : Int32) (y4 : Int32), fL_act_J293 N Tn Ta Wg Wz Ww Wr y1 y2 y3 y4 = some (r0, Tn9, Ta9, Wg9, Wz9, Ww9, Wr9) → ∀ (H : Heap) (locs : List Loc), va_P D vwCl (w_0_1_2_13 q cI cJ cD Tn Ta Wg Wz Ww Wr) H → va_S (gA q [0, 1, 2, 13]) s.heap H locs → ∀ ls : Array Slot, lv_has ls 6 [] → W p l e (headSpec wsL_act rL_actx).room s m ([.ref (q 0), .int p1] : List Value).toArray below meth c H locs 0 0 (MQ below (gQ D (some (.int r0)) (w_0_1_2_13 q cI cJ cD Tn9 Ta9 Wg9 Wz9 Ww9 Wr9) (gA q [0, 1, 2, 13])) ([.ref (q 0), .int p1] : List Value).toArray s 1 6 (gA q [0, 1, 2, 13])) (F0 m 293 ls [.int y4, .int y3, .int y2, .int y1, .ref (q 0)]) := by
    intro Tn Ta Wg Wz Ww Wr y1 y2 y3 y4 hf H locs hP hS ls hl
    unfold fL_act_J293 at hf
    obtain ⟨r293, hc, hf⟩ := bn_some hf
    try dsimp only at hf
    refine g_call0 (ws' := (w_0_1_2_13 q cI cJ cD Tn Ta Wg Wz Ww Wr)) (st1 := [.int r293, .int y2, .int y1, .ref (q 0)]) hq [0, 1, 2, 13] [] [.inr 0, .inr 1, .inr 2, .inr 3] (va_runS (As := [.int y3, .int y4]) (rest := [.int y2, .int y1, .ref (q 0)]) ⟨hx, hb, hml, hown, hts⟩ (kL_low l D cI cJ cD q hq N y3 y4 r293 hc) (va_cwS 2 hts gL_act_L_low rfl rfl rfl (by decide +kernel) ⟨(Nat.le_of_ble_eq_true rfl), (Nat.le_of_ble_eq_true rfl)⟩) ⟨gP_blind, fun U hU hW => ⟨rfl, by rw [hU]; exact hP.sub (ws' := (w_0none q cI cJ cD)) [] rfl, gEv.warm hW hE⟩⟩ rfl rfl hl.1 rfl (lv_room (Nat.le_of_ble_eq_true rfl)) dL_act_293 ⟨Nat.zero_le _, Nat.zero_le _⟩) hP hS (gSub rfl) rfl rfl rfl rfl rfl (fun H locs hP hS => ?_)
    obtain ⟨⟨r296, Tn296, Ta296, Wg296, Wz296, Ww296, Wr296⟩, hc, hf⟩ := bn_some hf
    try dsimp only at hf
    refine g_call (mc := 1) (ms := 6) (ws' := (w_0_1_2_13 q cI cJ cD Tn296 Ta296 Wg296 Wz296 Ww296 Wr296)) (st1 := [.int r296]) hq [0, 1, 2, 13] [0, 1, 2, 13] [.inl 0, .inl 1, .inl 2, .inl 3] (vx_runSW (As := [.ref (q 0), .int y1, .int y2, .int r293]) (rest := []) ⟨hx, hb, hml, hown, hts⟩ (kL_necklace l hlt D cI cJ cD sa q hq N Tn Ta Wg Wz Ww Wr y1 y2 r293 r296 Tn296 Ta296 Wg296 Wz296 Ww296 Wr296 hc) (vx_cwSW 4 hts gL_act_L_necklace rfl rfl rfl (by decide +kernel) ⟨(Nat.le_of_ble_eq_true rfl), (Nat.le_of_ble_eq_true rfl)⟩) ⟨gPx_blind, fun U hU hW => ⟨rfl, by rw [hU]; exact hP.sub (ws' := (w_0_1_2_13 q cI cJ cD Tn Ta Wg Wz Ww Wr)) [0, 1, 2, 3] rfl, gEv.warm hW hE, gXe.go hW hS (gMono rfl) hXe hU⟩⟩ rfl rfl hl.1 rfl (lv_room (Nat.le_of_ble_eq_true rfl)) dL_act_296 ⟨(Nat.le_of_ble_eq_true rfl), (Nat.le_of_ble_eq_true rfl)⟩) hP hS (gSub rfl) rfl rfl rfl rfl rfl (fun H locs hP hS => ?_)
    exact J299 Tn296 Ta296 Wg296 Wz296 Ww296 Wr296 r296 hf _ _ hP hS _ (lv_sub hl [] rfl)
  have J223 : ∀ (Tn : Int32) (Ta : (Nat → Int32)) (Wg : Int32) (Wz : Int32) (Ww : Int32) (Wr : Int32) (x1 : Int32) (x2 : Int32), fL_act_J223 N Tn Ta Wg Wz Ww Wr x1 x2 = some (r0, Tn9, Ta9, Wg9, Wz9, Ww9, Wr9) → ∀ (H : Heap) (locs : List Loc), va_P D vwCl (w_0_1_2_13 q cI cJ cD Tn Ta Wg Wz Ww Wr) H → va_S (gA q [0, 1, 2, 13]) s.heap H locs → ∀ ls : Array Slot, lv_has ls 6 [(0, .ref (q 0)), (1, .int x1), (2, .int x2)] → W p l e (headSpec wsL_act rL_actx).room s m ([.ref (q 0), .int p1] : List Value).toArray below meth c H locs 0 0 (MQ below (gQ D (some (.int r0)) (w_0_1_2_13 q cI cJ cD Tn9 Ta9 Wg9 Wz9 Ww9 Wr9) (gA q [0, 1, 2, 13])) ([.ref (q 0), .int p1] : List Value).toArray s 1 6 (gA q [0, 1, 2, 13])) (F0 m 223 ls []) := by
    intro Tn Ta Wg Wz Ww Wr x1 x2 hf H locs hP hS ls hl
    unfold fL_act_J223 at hf
    refine lv_iload_n hx hb dL_act_223 rfl (lv_at hl 1 rfl) ?_
    refine lv_bipush (v := (12 : Int32)) hx hb dL_act_224 (by decide) ?_
    refine lv_ishr hx hb dL_act_226 ?_
    refine lv_iconst (v := (1 : Int32)) hx hb dL_act_227 (by decide) ?_
    refine lv_iand hx hb dL_act_228 ?_
    refine lv_if_ne (tgt := 256) hx hb dL_act_229 (by decide) (fun c_3 => ?_) (fun c_3 => ?_)
    · have hf := (if_neg c_3).symm.trans hf
      refine lv_aload_n hx hb dL_act_256 rfl (lv_at hl 0 rfl) ?_
      refine lv_iconst (v := (1 : Int32)) hx hb dL_act_257 (by decide) ?_
      refine lv_iload_n hx hb dL_act_258 rfl (lv_at hl 1 rfl) ?_
      refine lv_iconst (v := (5 : Int32)) hx hb dL_act_259 (by decide) ?_
      refine lv_ishr hx hb dL_act_260 ?_
      refine lv_iconst (v := (4 : Int32)) hx hb dL_act_261 (by decide) ?_
      obtain ⟨r262, hc, hf⟩ := bn_some hf
      try dsimp only at hf
      refine g_call0 (ws' := (w_0_1_2_13 q cI cJ cD Tn Ta Wg Wz Ww Wr)) (st1 := [.int r262, .int (1 : Int32), .ref (q 0)]) hq [0, 1, 2, 13] [] [.inr 0, .inr 1, .inr 2, .inr 3] (va_runS (As := [.int (x1 >>> ((5 : Int32) &&& 31)), .int (4 : Int32)]) (rest := [.int (1 : Int32), .ref (q 0)]) ⟨hx, hb, hml, hown, hts⟩ (kL_low l D cI cJ cD q hq N (x1 >>> ((5 : Int32) &&& 31)) (4 : Int32) r262 hc) (va_cwS 2 hts gL_act_L_low rfl rfl rfl (by decide +kernel) ⟨(Nat.le_of_ble_eq_true rfl), (Nat.le_of_ble_eq_true rfl)⟩) ⟨gP_blind, fun U hU hW => ⟨rfl, by rw [hU]; exact hP.sub (ws' := (w_0none q cI cJ cD)) [] rfl, gEv.warm hW hE⟩⟩ rfl rfl hl.1 rfl (lv_room (Nat.le_of_ble_eq_true rfl)) dL_act_262 ⟨Nat.zero_le _, Nat.zero_le _⟩) hP hS (gSub rfl) rfl rfl rfl rfl rfl (fun H locs hP hS => ?_)
      refine lv_iadd hx hb dL_act_265 ?_
      refine lv_iconst (v := (1 : Int32)) hx hb dL_act_266 (by decide) ?_
      refine lv_iload_n hx hb dL_act_267 rfl (lv_at hl 1 rfl) ?_
      refine lv_bipush (v := (8 : Int32)) hx hb dL_act_268 (by decide) ?_
      refine lv_ishr hx hb dL_act_270 ?_
      refine lv_bipush (v := (8 : Int32)) hx hb dL_act_271 (by decide) ?_
      obtain ⟨r273, hc, hf⟩ := bn_some hf
      try dsimp only at hf
      refine g_call0 (ws' := (w_0_1_2_13 q cI cJ cD Tn Ta Wg Wz Ww Wr)) (st1 := [.int r273, .int (1 : Int32), .int ((1 : Int32) + r262), .ref (q 0)]) hq [0, 1, 2, 13] [] [.inr 0, .inr 1, .inr 2, .inr 3] (va_runS (As := [.int (x1 >>> ((8 : Int32) &&& 31)), .int (8 : Int32)]) (rest := [.int (1 : Int32), .int ((1 : Int32) + r262), .ref (q 0)]) ⟨hx, hb, hml, hown, hts⟩ (kL_low l D cI cJ cD q hq N (x1 >>> ((8 : Int32) &&& 31)) (8 : Int32) r273 hc) (va_cwS 2 hts gL_act_L_low rfl rfl rfl (by decide +kernel) ⟨(Nat.le_of_ble_eq_true rfl), (Nat.le_of_ble_eq_true rfl)⟩) ⟨gP_blind, fun U hU hW => ⟨rfl, by rw [hU]; exact hP.sub (ws' := (w_0none q cI cJ cD)) [] rfl, gEv.warm hW hE⟩⟩ rfl rfl hl.1 rfl (lv_room (Nat.le_of_ble_eq_true rfl)) dL_act_273 ⟨Nat.zero_le _, Nat.zero_le _⟩) hP hS (gSub rfl) rfl rfl rfl rfl rfl (fun H locs hP hS => ?_)
      refine lv_iadd hx hb dL_act_276 ?_
      refine lv_iload_n hx hb dL_act_277 rfl (lv_at hl 1 rfl) ?_
      refine lv_bipush (v := (13 : Int32)) hx hb dL_act_278 (by decide) ?_
      refine lv_ishr hx hb dL_act_280 ?_
      refine lv_iload_n hx hb dL_act_281 rfl (lv_at hl 2 rfl) ?_
      refine lv_if_eq (tgt := 291) hx hb dL_act_282 (by decide) (fun c_4 => ?_) (fun c_4 => ?_)
      · have hf := (if_pos c_4).symm.trans hf
        refine lv_bipush (v := (12 : Int32)) hx hb dL_act_291 (by decide) ?_
        exact J293 Tn Ta Wg Wz Ww Wr ((1 : Int32) + r262) ((1 : Int32) + r273) (x1 >>> ((13 : Int32) &&& 31)) (12 : Int32) hf _ _ hP hS _ (lv_sub hl [] rfl)
      · have hf := (if_neg c_4).symm.trans hf
        refine lv_sipush (v := (9999 : Int32)) hx hb dL_act_285 (by decide) ?_
        refine lv_goto (tgt := 293) hx hb dL_act_288 (by decide) ?_
        exact J293 Tn Ta Wg Wz Ww Wr ((1 : Int32) + r262) ((1 : Int32) + r273) (x1 >>> ((13 : Int32) &&& 31)) (9999 : Int32) hf _ _ hP hS _ (lv_sub hl [] rfl)
    · have hf := (if_pos c_3).symm.trans hf
      refine lv_aload_n hx hb dL_act_232 rfl (lv_at hl 0 rfl) ?_
      refine lv_iload_n hx hb dL_act_233 rfl (lv_at hl 1 rfl) ?_
      refine lv_iconst (v := (5 : Int32)) hx hb dL_act_234 (by decide) ?_
      refine lv_ishr hx hb dL_act_235 ?_
      refine lv_bipush (v := (10 : Int32)) hx hb dL_act_236 (by decide) ?_
      obtain ⟨r238, hc, hf⟩ := bn_some hf
      try dsimp only at hf
      refine g_call0 (ws' := (w_0_1_2_13 q cI cJ cD Tn Ta Wg Wz Ww Wr)) (st1 := [.int r238, .ref (q 0)]) hq [0, 1, 2, 13] [] [.inr 0, .inr 1, .inr 2, .inr 3] (va_runS (As := [.int (x1 >>> ((5 : Int32) &&& 31)), .int (10 : Int32)]) (rest := [.ref (q 0)]) ⟨hx, hb, hml, hown, hts⟩ (kL_low l D cI cJ cD q hq N (x1 >>> ((5 : Int32) &&& 31)) (10 : Int32) r238 hc) (va_cwS 2 hts gL_act_L_low rfl rfl rfl (by decide +kernel) ⟨(Nat.le_of_ble_eq_true rfl), (Nat.le_of_ble_eq_true rfl)⟩) ⟨gP_blind, fun U hU hW => ⟨rfl, by rw [hU]; exact hP.sub (ws' := (w_0none q cI cJ cD)) [] rfl, gEv.warm hW hE⟩⟩ rfl rfl hl.1 rfl (lv_room (Nat.le_of_ble_eq_true rfl)) dL_act_238 ⟨Nat.zero_le _, Nat.zero_le _⟩) hP hS (gSub rfl) rfl rfl rfl rfl rfl (fun H locs hP hS => ?_)
      refine lv_iload_n hx hb dL_act_241 rfl (lv_at hl 1 rfl) ?_
      refine lv_bipush (v := (9 : Int32)) hx hb dL_act_242 (by decide) ?_
      refine lv_ishr hx hb dL_act_244 ?_
      refine lv_bipush (v := (8 : Int32)) hx hb dL_act_245 (by decide) ?_
      obtain ⟨r247, hc, hf⟩ := bn_some hf
      try dsimp only at hf
      refine g_call0 (ws' := (w_0_1_2_13 q cI cJ cD Tn Ta Wg Wz Ww Wr)) (st1 := [.int r247, .int r238, .ref (q 0)]) hq [0, 1, 2, 13] [] [.inr 0, .inr 1, .inr 2, .inr 3] (va_runS (As := [.int (x1 >>> ((9 : Int32) &&& 31)), .int (8 : Int32)]) (rest := [.int r238, .ref (q 0)]) ⟨hx, hb, hml, hown, hts⟩ (kL_low l D cI cJ cD q hq N (x1 >>> ((9 : Int32) &&& 31)) (8 : Int32) r247 hc) (va_cwS 2 hts gL_act_L_low rfl rfl rfl (by decide +kernel) ⟨(Nat.le_of_ble_eq_true rfl), (Nat.le_of_ble_eq_true rfl)⟩) ⟨gP_blind, fun U hU hW => ⟨rfl, by rw [hU]; exact hP.sub (ws' := (w_0none q cI cJ cD)) [] rfl, gEv.warm hW hE⟩⟩ rfl rfl hl.1 rfl (lv_room (Nat.le_of_ble_eq_true rfl)) dL_act_247 ⟨Nat.zero_le _, Nat.zero_le _⟩) hP hS (gSub rfl) rfl rfl rfl rfl rfl (fun H locs hP hS => ?_)
      obtain ⟨⟨r250, Tn250, Ta250, Wg250, Wz250, Ww250, Wr250⟩, hc, hf⟩ := bn_some hf
      try dsimp only at hf
      refine g_call (mc := 1) (ms := 6) (ws' := (w_0_1_2_13 q cI cJ cD Tn250 Ta250 Wg250 Wz250 Ww250 Wr250)) (st1 := [.int r250]) hq [0, 1, 2, 13] [0, 1, 2, 13] [.inl 0, .inl 1, .inl 2, .inl 3] (vx_runSW (As := [.ref (q 0), .int r238, .int r247]) (rest := []) ⟨hx, hb, hml, hown, hts⟩ (kL_deBruijn l hlt D cI cJ cD sa q hq N Tn Ta Wg Wz Ww Wr r238 r247 r250 Tn250 Ta250 Wg250 Wz250 Ww250 Wr250 hc) (vx_cwSW 3 hts gL_act_L_deBruijn rfl rfl rfl (by decide +kernel) ⟨(Nat.le_of_ble_eq_true rfl), (Nat.le_of_ble_eq_true rfl)⟩) ⟨gPx_blind, fun U hU hW => ⟨rfl, by rw [hU]; exact hP.sub (ws' := (w_0_1_2_13 q cI cJ cD Tn Ta Wg Wz Ww Wr)) [0, 1, 2, 3] rfl, gEv.warm hW hE, gXe.go hW hS (gMono rfl) hXe hU⟩⟩ rfl rfl hl.1 rfl (lv_room (Nat.le_of_ble_eq_true rfl)) dL_act_250 ⟨(Nat.le_of_ble_eq_true rfl), (Nat.le_of_ble_eq_true rfl)⟩) hP hS (gSub rfl) rfl rfl rfl rfl rfl (fun H locs hP hS => ?_)
      refine lv_goto (tgt := 299) hx hb dL_act_253 (by decide) ?_
      exact J299 Tn250 Ta250 Wg250 Wz250 Ww250 Wr250 r250 hf _ _ hP hS _ (lv_sub hl [] rfl)
  have J76 : ∀ (Tn : Int32) (Ta : (Nat → Int32)) (Wg : Int32) (Wz : Int32) (Ww : Int32) (Wr : Int32) (x1 : Int32) (x2 : Int32) (x4 : Int32) (y0 : Int32), fL_act_J76 N Tn Ta Wg Wz Ww Wr x1 x2 x4 y0 = some (r0, Tn9, Ta9, Wg9, Wz9, Ww9, Wr9) → ∀ (H : Heap) (locs : List Loc), va_P D vwCl (w_0_1_2_13 q cI cJ cD Tn Ta Wg Wz Ww Wr) H → va_S (gA q [0, 1, 2, 13]) s.heap H locs → ∀ ls : Array Slot, lv_has ls 6 [(0, .ref (q 0)), (1, .int x1), (2, .int x2), (4, .int x4)] → W p l e (headSpec wsL_act rL_actx).room s m ([.ref (q 0), .int p1] : List Value).toArray below meth c H locs 0 0 (MQ below (gQ D (some (.int r0)) (w_0_1_2_13 q cI cJ cD Tn9 Ta9 Wg9 Wz9 Ww9 Wr9) (gA q [0, 1, 2, 13])) ([.ref (q 0), .int p1] : List Value).toArray s 1 6 (gA q [0, 1, 2, 13])) (F0 m 76 ls [.int y0]) := by
    intro Tn Ta Wg Wz Ww Wr x1 x2 x4 y0 hf H locs hP hS ls hl
    unfold fL_act_J76 at hf
    refine lv_istore (lv' := [(5, .int y0), (0, .ref (q 0)), (1, .int x1), (2, .int x2), (4, .int x4)]) hx hb dL_act_76 hl (by decide) rfl (fun ls hl => ?_)
    refine lv_iload_n hx hb dL_act_78 rfl (lv_at hl 2 rfl) ?_
    refine lv_bipush (v := (16 : Int32)) hx hb dL_act_79 (by decide) ?_
    obtain ⟨r81, hc, hf⟩ := bn_some hf
    try dsimp only at hf
    refine g_call0 (ws' := (w_0_1_2_13 q cI cJ cD Tn Ta Wg Wz Ww Wr)) (st1 := [.int r81]) hq [0, 1, 2, 13] [] [.inr 0, .inr 1, .inr 2, .inr 3] (va_runS (As := [.int x1, .int (16 : Int32)]) (rest := []) ⟨hx, hb, hml, hown, hts⟩ (kL_low l D cI cJ cD q hq N x1 (16 : Int32) r81 hc) (va_cwS 2 hts gL_act_L_low rfl rfl rfl (by decide +kernel) ⟨(Nat.le_of_ble_eq_true rfl), (Nat.le_of_ble_eq_true rfl)⟩) ⟨gP_blind, fun U hU hW => ⟨rfl, by rw [hU]; exact hP.sub (ws' := (w_0none q cI cJ cD)) [] rfl, gEv.warm hW hE⟩⟩ rfl rfl hl.1 rfl (lv_room (Nat.le_of_ble_eq_true rfl)) dL_act_81 ⟨Nat.zero_le _, Nat.zero_le _⟩) hP hS (gSub rfl) rfl rfl rfl rfl rfl (fun H locs hP hS => ?_)
    by_cases ho : (r81).toInt < 0 ∨ 7 < (r81).toInt
    · have hf := (if_pos ho).symm.trans hf
      refine lv_tableOut (tgt := 300) hx hb dL_act_84 ho (by decide) ?_
      exact J300 Tn Ta Wg Wz Ww Wr x4 hf _ _ hP hS _ (lv_sub hl [1, 4] rfl)
    have hf := (if_neg ho).symm.trans hf
    by_cases hz0 : (r81).toInt = 0
    · have hf := (if_pos hz0).symm.trans hf
      refine lv_tableIn (tgt := 132) (off := 48) hx hb dL_act_84 (by omega) (by omega) (by rw [hz0]; rfl) (by decide) ?_
      exact J132 Tn Ta Wg Wz Ww Wr x4 y0 hf _ _ hP hS _ (lv_sub hl [1, 4, 0] rfl)
    have hf := (if_neg hz0).symm.trans hf
    by_cases hz1 : (r81).toInt = 1
    · have hf := (if_pos hz1).symm.trans hf
      refine lv_tableIn (tgt := 141) (off := 57) hx hb dL_act_84 (by omega) (by omega) (by rw [hz1]; rfl) (by decide) ?_
      exact J141 Tn Ta Wg Wz Ww Wr x4 y0 hf _ _ hP hS _ (lv_sub hl [1, 4, 0] rfl)
    have hf := (if_neg hz1).symm.trans hf
    by_cases hz2 : (r81).toInt = 2
    · have hf := (if_pos hz2).symm.trans hf
      refine lv_tableIn (tgt := 150) (off := 66) hx hb dL_act_84 (by omega) (by omega) (by rw [hz2]; rfl) (by decide) ?_
      exact J150 Tn Ta Wg Wz Ww Wr y0 hf _ _ hP hS _ (lv_sub hl [1, 0] rfl)
    have hf := (if_neg hz2).symm.trans hf
    by_cases hz3 : (r81).toInt = 3
    · have hf := (if_pos hz3).symm.trans hf
      refine lv_tableIn (tgt := 157) (off := 73) hx hb dL_act_84 (by omega) (by omega) (by rw [hz3]; rfl) (by decide) ?_
      exact J157 Tn Ta Wg Wz Ww Wr x1 x2 hf _ _ hP hS _ (lv_sub hl [1, 2, 3] rfl)
    have hf := (if_neg hz3).symm.trans hf
    by_cases hz4 : (r81).toInt = 4
    · have hf := (if_pos hz4).symm.trans hf
      refine lv_tableIn (tgt := 180) (off := 96) hx hb dL_act_84 (by omega) (by omega) (by rw [hz4]; rfl) (by decide) ?_
      exact J180 Tn Ta Wg Wz Ww Wr x1 y0 hf _ _ hP hS _ (lv_sub hl [1, 2, 0] rfl)
    have hf := (if_neg hz4).symm.trans hf
    by_cases hz5 : (r81).toInt = 5
    · have hf := (if_pos hz5).symm.trans hf
      refine lv_tableIn (tgt := 180) (off := 96) hx hb dL_act_84 (by omega) (by omega) (by rw [hz5]; rfl) (by decide) ?_
      exact J180 Tn Ta Wg Wz Ww Wr x1 y0 hf _ _ hP hS _ (lv_sub hl [1, 2, 0] rfl)
    have hf := (if_neg hz5).symm.trans hf
    by_cases hz6 : (r81).toInt = 6
    · have hf := (if_pos hz6).symm.trans hf
      refine lv_tableIn (tgt := 201) (off := 117) hx hb dL_act_84 (by omega) (by omega) (by rw [hz6]; rfl) (by decide) ?_
      exact J201 Tn Ta Wg Wz Ww Wr x1 hf _ _ hP hS _ (lv_sub hl [1, 2] rfl)
    have hf := (if_neg hz6).symm.trans hf
    have hz7 : (r81).toInt = 7 := by omega
    refine lv_tableIn (tgt := 223) (off := 139) hx hb dL_act_84 (by omega) (by omega) (by rw [hz7]; rfl) (by decide) ?_
    exact J223 Tn Ta Wg Wz Ww Wr x1 x2 hf _ _ hP hS _ (lv_sub hl [1, 2, 3] rfl)
  have J55 : ∀ (Tn : Int32) (Ta : (Nat → Int32)) (Wg : Int32) (Wz : Int32) (Ww : Int32) (Wr : Int32) (x1 : Int32) (x2 : Int32) (x3 : Int32) (y0 : Int32) (y1 : Int32), fL_act_J55 N Tn Ta Wg Wz Ww Wr x1 x2 x3 y0 y1 = some (r0, Tn9, Ta9, Wg9, Wz9, Ww9, Wr9) → ∀ (H : Heap) (locs : List Loc), va_P D vwCl (w_0_1_2_13 q cI cJ cD Tn Ta Wg Wz Ww Wr) H → va_S (gA q [0, 1, 2, 13]) s.heap H locs → ∀ ls : Array Slot, lv_has ls 6 [(0, .ref (q 0)), (1, .int x1), (2, .int x2), (3, .int x3)] → W p l e (headSpec wsL_act rL_actx).room s m ([.ref (q 0), .int p1] : List Value).toArray below meth c H locs 0 0 (MQ below (gQ D (some (.int r0)) (w_0_1_2_13 q cI cJ cD Tn9 Ta9 Wg9 Wz9 Ww9 Wr9) (gA q [0, 1, 2, 13])) ([.ref (q 0), .int p1] : List Value).toArray s 1 6 (gA q [0, 1, 2, 13])) (F0 m 55 ls [.int y1, .int y0]) := by
    intro Tn Ta Wg Wz Ww Wr x1 x2 x3 y0 y1 hf H locs hP hS ls hl
    unfold fL_act_J55 at hf
    obtain ⟨r55, hc, hf⟩ := bn_some hf
    try dsimp only at hf
    refine g_call0 (ws' := (w_0_1_2_13 q cI cJ cD Tn Ta Wg Wz Ww Wr)) (st1 := [.int r55]) hq [0, 1, 2, 13] [] [.inr 0, .inr 1, .inr 2, .inr 3] (va_runS (As := [.int y0, .int y1]) (rest := []) ⟨hx, hb, hml, hown, hts⟩ (kL_low l D cI cJ cD q hq N y0 y1 r55 hc) (va_cwS 2 hts gL_act_L_low rfl rfl rfl (by decide +kernel) ⟨(Nat.le_of_ble_eq_true rfl), (Nat.le_of_ble_eq_true rfl)⟩) ⟨gP_blind, fun U hU hW => ⟨rfl, by rw [hU]; exact hP.sub (ws' := (w_0none q cI cJ cD)) [] rfl, gEv.warm hW hE⟩⟩ rfl rfl hl.1 rfl (lv_room (Nat.le_of_ble_eq_true rfl)) dL_act_55 ⟨Nat.zero_le _, Nat.zero_le _⟩) hP hS (gSub rfl) rfl rfl rfl rfl rfl (fun H locs hP hS => ?_)
    refine lv_istore (lv' := [(4, .int r55), (0, .ref (q 0)), (1, .int x1), (2, .int x2), (3, .int x3)]) hx hb dL_act_58 hl (by decide) rfl (fun ls hl => ?_)
    refine lv_iload_n hx hb dL_act_60 rfl (lv_at hl 4 rfl) ?_
    refine lv_if_ne (tgt := 68) hx hb dL_act_61 (by decide) (fun c_5 => ?_) (fun c_5 => ?_)
    · have hf := (if_neg c_5).symm.trans hf
      refine lv_iload_n hx hb dL_act_68 rfl (lv_at hl 2 rfl) ?_
      refine lv_bipush (v := (8 : Int32)) hx hb dL_act_69 (by decide) ?_
      refine lv_ishr hx hb dL_act_71 ?_
      refine lv_iload_n hx hb dL_act_72 rfl (lv_at hl 4 rfl) ?_
      obtain ⟨r73, hc, hf⟩ := bn_some hf
      try dsimp only at hf
      refine g_call0 (ws' := (w_0_1_2_13 q cI cJ cD Tn Ta Wg Wz Ww Wr)) (st1 := [.int r73]) hq [0, 1, 2, 13] [] [.inr 0, .inr 1, .inr 2, .inr 3] (va_runS (As := [.int (x1 >>> ((8 : Int32) &&& 31)), .int x3]) (rest := []) ⟨hx, hb, hml, hown, hts⟩ (kL_low l D cI cJ cD q hq N (x1 >>> ((8 : Int32) &&& 31)) x3 r73 hc) (va_cwS 2 hts gL_act_L_low rfl rfl rfl (by decide +kernel) ⟨(Nat.le_of_ble_eq_true rfl), (Nat.le_of_ble_eq_true rfl)⟩) ⟨gP_blind, fun U hU hW => ⟨rfl, by rw [hU]; exact hP.sub (ws' := (w_0none q cI cJ cD)) [] rfl, gEv.warm hW hE⟩⟩ rfl rfl hl.1 rfl (lv_room (Nat.le_of_ble_eq_true rfl)) dL_act_73 ⟨Nat.zero_le _, Nat.zero_le _⟩) hP hS (gSub rfl) rfl rfl rfl rfl rfl (fun H locs hP hS => ?_)
      exact J76 Tn Ta Wg Wz Ww Wr x1 x2 r55 r73 hf _ _ hP hS _ (lv_sub hl [1, 2, 3, 0] rfl)
    · have hf := (if_pos c_5).symm.trans hf
      refine lv_iconst (v := (0 : Int32)) hx hb dL_act_64 (by decide) ?_
      refine lv_goto (tgt := 76) hx hb dL_act_65 (by decide) ?_
      exact J76 Tn Ta Wg Wz Ww Wr x1 x2 r55 (0 : Int32) hf _ _ hP hS _ (lv_sub hl [1, 2, 3, 0] rfl)
  have J31 : ∀ (Tn : Int32) (Ta : (Nat → Int32)) (Wg : Int32) (Wz : Int32) (Ww : Int32) (Wr : Int32) (x1 : Int32) (x2 : Int32) (y0 : Int32) (y1 : Int32), fL_act_J31 N Tn Ta Wg Wz Ww Wr x1 x2 y0 y1 = some (r0, Tn9, Ta9, Wg9, Wz9, Ww9, Wr9) → ∀ (H : Heap) (locs : List Loc), va_P D vwCl (w_0_1_2_13 q cI cJ cD Tn Ta Wg Wz Ww Wr) H → va_S (gA q [0, 1, 2, 13]) s.heap H locs → ∀ ls : Array Slot, lv_has ls 6 [(0, .ref (q 0)), (1, .int x1), (2, .int x2)] → W p l e (headSpec wsL_act rL_actx).room s m ([.ref (q 0), .int p1] : List Value).toArray below meth c H locs 0 0 (MQ below (gQ D (some (.int r0)) (w_0_1_2_13 q cI cJ cD Tn9 Ta9 Wg9 Wz9 Ww9 Wr9) (gA q [0, 1, 2, 13])) ([.ref (q 0), .int p1] : List Value).toArray s 1 6 (gA q [0, 1, 2, 13])) (F0 m 31 ls [.int y1, .int y0]) := by
    intro Tn Ta Wg Wz Ww Wr x1 x2 y0 y1 hf H locs hP hS ls hl
    unfold fL_act_J31 at hf
    refine lv_iadd hx hb dL_act_31 ?_
    refine lv_istore_n (lv' := [(3, .int (y0 + y1)), (0, .ref (q 0)), (1, .int x1), (2, .int x2)]) hx hb dL_act_32 rfl hl (by decide) rfl (fun ls hl => ?_)
    refine lv_iload_n hx hb dL_act_33 rfl (lv_at hl 2 rfl) ?_
    refine lv_iconst (v := (5 : Int32)) hx hb dL_act_34 (by decide) ?_
    refine lv_ishr hx hb dL_act_35 ?_
    refine lv_iload_n hx hb dL_act_36 rfl (lv_at hl 3 rfl) ?_
    refine lv_if_eq (tgt := 45) hx hb dL_act_37 (by decide) (fun c_6 => ?_) (fun c_6 => ?_)
    · have hf := (if_pos c_6).symm.trans hf
      refine lv_iconst (v := (1 : Int32)) hx hb dL_act_45 (by decide) ?_
      refine lv_iload_n hx hb dL_act_46 rfl (lv_at hl 2 rfl) ?_
      refine lv_bipush (v := (26 : Int32)) hx hb dL_act_47 (by decide) ?_
      refine lv_ishr hx hb dL_act_49 ?_
      refine lv_iconst (v := (3 : Int32)) hx hb dL_act_50 (by decide) ?_
      obtain ⟨r51, hc, hf⟩ := bn_some hf
      try dsimp only at hf
      refine g_call0 (ws' := (w_0_1_2_13 q cI cJ cD Tn Ta Wg Wz Ww Wr)) (st1 := [.int r51, .int (1 : Int32), .int (x1 >>> ((5 : Int32) &&& 31))]) hq [0, 1, 2, 13] [] [.inr 0, .inr 1, .inr 2, .inr 3] (va_runS (As := [.int (x1 >>> ((26 : Int32) &&& 31)), .int (3 : Int32)]) (rest := [.int (1 : Int32), .int (x1 >>> ((5 : Int32) &&& 31))]) ⟨hx, hb, hml, hown, hts⟩ (kL_low l D cI cJ cD q hq N (x1 >>> ((26 : Int32) &&& 31)) (3 : Int32) r51 hc) (va_cwS 2 hts gL_act_L_low rfl rfl rfl (by decide +kernel) ⟨(Nat.le_of_ble_eq_true rfl), (Nat.le_of_ble_eq_true rfl)⟩) ⟨gP_blind, fun U hU hW => ⟨rfl, by rw [hU]; exact hP.sub (ws' := (w_0none q cI cJ cD)) [] rfl, gEv.warm hW hE⟩⟩ rfl rfl hl.1 rfl (lv_room (Nat.le_of_ble_eq_true rfl)) dL_act_51 ⟨Nat.zero_le _, Nat.zero_le _⟩) hP hS (gSub rfl) rfl rfl rfl rfl rfl (fun H locs hP hS => ?_)
      refine lv_iadd hx hb dL_act_54 ?_
      exact J55 Tn Ta Wg Wz Ww Wr x1 x2 (y0 + y1) (x1 >>> ((5 : Int32) &&& 31)) ((1 : Int32) + r51) hf _ _ hP hS _ (lv_sub hl [1, 2, 3, 0] rfl)
    · have hf := (if_neg c_6).symm.trans hf
      refine lv_bipush (v := (28 : Int32)) hx hb dL_act_40 (by decide) ?_
      refine lv_goto (tgt := 55) hx hb dL_act_42 (by decide) ?_
      exact J55 Tn Ta Wg Wz Ww Wr x1 x2 (y0 + y1) (x1 >>> ((5 : Int32) &&& 31)) (28 : Int32) hf _ _ hP hS _ (lv_sub hl [1, 2, 3, 0] rfl)
  have J17 : ∀ (Tn : Int32) (Ta : (Nat → Int32)) (Wg : Int32) (Wz : Int32) (Ww : Int32) (Wr : Int32) (x1 : Int32) (y0 : Int32), fL_act_J17 N Tn Ta Wg Wz Ww Wr x1 y0 = some (r0, Tn9, Ta9, Wg9, Wz9, Ww9, Wr9) → ∀ (H : Heap) (locs : List Loc), va_P D vwCl (w_0_1_2_13 q cI cJ cD Tn Ta Wg Wz Ww Wr) H → va_S (gA q [0, 1, 2, 13]) s.heap H locs → ∀ ls : Array Slot, lv_has ls 6 [(0, .ref (q 0)), (1, .int x1)] → W p l e (headSpec wsL_act rL_actx).room s m ([.ref (q 0), .int p1] : List Value).toArray below meth c H locs 0 0 (MQ below (gQ D (some (.int r0)) (w_0_1_2_13 q cI cJ cD Tn9 Ta9 Wg9 Wz9 Ww9 Wr9) (gA q [0, 1, 2, 13])) ([.ref (q 0), .int p1] : List Value).toArray s 1 6 (gA q [0, 1, 2, 13])) (F0 m 17 ls [.int y0]) := by
    intro Tn Ta Wg Wz Ww Wr x1 y0 hf H locs hP hS ls hl
    unfold fL_act_J17 at hf
    refine lv_istore_n (lv' := [(2, .int y0), (0, .ref (q 0)), (1, .int x1)]) hx hb dL_act_17 rfl hl (by decide) rfl (fun ls hl => ?_)
    refine lv_aload_n hx hb dL_act_18 rfl (lv_at hl 1 rfl) ?_
    obtain ⟨r19, hc, hf⟩ := bn_some hf
    try dsimp only at hf
    refine g_call0 (ws' := (w_0_1_2_13 q cI cJ cD Tn Ta Wg Wz Ww Wr)) (st1 := [.int r19]) hq [0, 1, 2, 13] [0, 1] [.inl 0, .inl 1, .inr 2, .inr 3] (va_runV (As := []) (rest := []) ⟨hx, hb, hml, hown, hts⟩ (kX8_length l D cI cJ cD q hq N Tn r19 hc) (cwV 0 hts gL_act_X8_length rfl rfl rfl (by decide +kernel) ⟨(Nat.le_of_ble_eq_true rfl), (Nat.le_of_ble_eq_true rfl)⟩) ⟨gP_blind, va_recv hE.1 hP (ci := 6) (q0 := 0) rfl rfl, fun U hU hW => ⟨rfl, by rw [hU]; exact hP.sub (ws' := (w_0_1 q cI cJ cD Tn)) [0, 1] rfl, gEv.warm hW hE⟩⟩ rfl rfl hl.1 rfl (lv_room (Nat.le_of_ble_eq_true rfl)) dL_act_19 ⟨Nat.zero_le _, Nat.zero_le _⟩) hP hS (gSub rfl) rfl rfl rfl rfl rfl (fun H locs hP hS => ?_)
    refine lv_iload_n hx hb dL_act_22 rfl (lv_at hl 0 rfl) ?_
    refine lv_if_eq (tgt := 30) hx hb dL_act_23 (by decide) (fun c_7 => ?_) (fun c_7 => ?_)
    · have hf := (if_pos c_7).symm.trans hf
      refine lv_iconst (v := (0 : Int32)) hx hb dL_act_30 (by decide) ?_
      exact J31 Tn Ta Wg Wz Ww Wr x1 y0 r19 (0 : Int32) hf _ _ hP hS _ (lv_sub hl [1, 2, 0] rfl)
    · have hf := (if_neg c_7).symm.trans hf
      refine lv_iconst (v := (1 : Int32)) hx hb dL_act_26 (by decide) ?_
      refine lv_goto (tgt := 31) hx hb dL_act_27 (by decide) ?_
      exact J31 Tn Ta Wg Wz Ww Wr x1 y0 r19 (1 : Int32) hf _ _ hP hS _ (lv_sub hl [1, 2, 0] rfl)
  unfold fL_act at hf
  refine lv_iload_n hx hb dL_act_0 rfl (lv_at hl 1 rfl) ?_
  refine lv_bipush (v := (22 : Int32)) hx hb dL_act_1 (by decide) ?_
  refine lv_ishr hx hb dL_act_3 ?_
  refine lv_bipush (v := (8 : Int32)) hx hb dL_act_4 (by decide) ?_
  obtain ⟨r6, hc, hf⟩ := bn_some hf
  try dsimp only at hf
  refine g_call0 (ws' := (w_0_1_2_13 q cI cJ cD Tn Ta Wg Wz Ww Wr)) (st1 := [.int r6]) hq [0, 1, 2, 13] [] [.inr 0, .inr 1, .inr 2, .inr 3] (va_runS (As := [.int (p1 >>> ((22 : Int32) &&& 31)), .int (8 : Int32)]) (rest := []) ⟨hx, hb, hml, hown, hts⟩ (kL_low l D cI cJ cD q hq N (p1 >>> ((22 : Int32) &&& 31)) (8 : Int32) r6 hc) (va_cwS 2 hts gL_act_L_low rfl rfl rfl (by decide +kernel) ⟨(Nat.le_of_ble_eq_true rfl), (Nat.le_of_ble_eq_true rfl)⟩) ⟨gP_blind, fun U hU hW => ⟨rfl, by rw [hU]; exact hP.sub (ws' := (w_0none q cI cJ cD)) [] rfl, gEv.warm hW hE⟩⟩ rfl rfl hl.1 rfl (lv_room (Nat.le_of_ble_eq_true rfl)) dL_act_6 ⟨Nat.zero_le _, Nat.zero_le _⟩) hP hS (gSub rfl) rfl rfl rfl rfl rfl (fun H locs hP hS => ?_)
  refine lv_if_ne (tgt := 16) hx hb dL_act_9 (by decide) (fun c_8 => ?_) (fun c_8 => ?_)
  · have hf := (if_neg c_8).symm.trans hf
    refine lv_iconst (v := (0 : Int32)) hx hb dL_act_16 (by decide) ?_
    exact J17 Tn Ta Wg Wz Ww Wr p1 (0 : Int32) hf _ _ hP hS _ (lv_sub hl [0, 1] rfl)
  · have hf := (if_pos c_8).symm.trans hf
    refine lv_iconst (v := (1 : Int32)) hx hb dL_act_12 (by decide) ?_
    refine lv_goto (tgt := 17) hx hb dL_act_13 (by decide) ?_
    exact J17 Tn Ta Wg Wz Ww Wr p1 (1 : Int32) hf _ _ hP hS _ (lv_sub hl [0, 1] rfl)
set_option maxHeartbeats 4000000 in
set_option maxRecDepth 100000 in
theorem kL_areAlike (l : Launch) (D : va_G) (cI cJ cD : ClassId) (q : Nat → Nat) (hq : gInj 28 q) (N : Nat) (Tn : Int32) (Ta : (Nat → Int32)) (Fn : Int32) (Fa : (Nat → Int32)) (Rn : Int32) (Ra : (Nat → Int32)) (Rb : (Nat → Int32)) (Rd : (Nat → Int32)) (QTn : Int32) (QTa : (Nat → Int32)) (QFn : Int32) (QFa : (Nat → Int32)) (QRn : Int32) (QRa : (Nat → Int32)) (QRb : (Nat → Int32)) (QRd : (Nat → Int32)) (r0 : Int32) (Fn9 : Int32) (Fa9 : (Nat → Int32)) (Rn9 : Int32) (Ra9 : (Nat → Int32)) (Rb9 : (Nat → Int32)) (Rd9 : (Nat → Int32)) (QFn9 : Int32) (QFa9 : (Nat → Int32)) (QRn9 : Int32) (QRa9 : (Nat → Int32)) (QRb9 : (Nat → Int32)) (QRd9 : (Nat → Int32)) (hf : fL_areAlike N Tn Ta Fn Fa Rn Ra Rb Rd QTn QTa QFn QFa QRn QRa QRb QRd = some (r0, Fn9, Fa9, Rn9, Ra9, Rb9, Rd9, QFn9, QFa9, QRn9, QRa9, QRb9, QRd9)) : Met l yL_areAlike wsL_areAlike rL_areAlike (gP D cI cJ cD [.ref (q 0), .ref (q 14)] (w_0_1_2_3_4_7_8_9_10_14_15_16_17_18_21_22_23_24 q cI cJ cD Tn Ta Fn Fa Rn Ra Rb Rd QTn QTa QFn QFa QRn QRa QRb QRd)) (gQ D (some (.int r0)) (w_0_1_2_3_4_7_8_9_10_14_15_16_17_18_21_22_23_24 q cI cJ cD Tn Ta Fn9 Fa9 Rn9 Ra9 Rb9 Rd9 QTn QTa QFn9 QFa9 QRn9 QRa9 QRb9 QRd9) (gA q [0, 1, 2, 3, 4, 7, 8, 9, 10, 14, 15, 16, 17, 18, 21, 22, 23, 24])) 0 0 (gA q [0, 1, 2, 3, 4, 7, 8, 9, 10, 14, 15, 16, 17, 18, 21, 22, 23, 24]) := by
  refine Met.ofW (cc := cL_areAlike) (maxL := 4) (ret := (some .boolean)) (by decide +kernel) rfl ?_
  intro p e s m args below meth c s₁ B hml hv
  obtain ⟨rfl, hP, hE⟩ := hv
  have hx := B.exec
  have hb := B.bytes
  have hr := B.returns
  have hts := atoms_spec (ws := wsL_areAlike) B.pre
  have hown : s.vm.findClass RL = some m.cls := findClass_of_methodNamed B.named
  have hlocks := B.notSynchronized
  have hS : va_S (gA q [0, 1, 2, 3, 4, 7, 8, 9, 10, 14, 15, 16, 17, 18, 21, 22, 23, 24]) s.heap s.heap [] := va_S.rf
  have hl := lv_entry ([.ref (q 0), .ref (q 14)]) (n := 4) (Nat.le_of_ble_eq_true rfl)
  rw [lg_entry_eq]
  generalize (lg_sl ([.ref (q 0), .ref (q 14)]) ++ List.replicate (4 - (lg_sl ([.ref (q 0), .ref (q 14)])).length) Slot.unset).toArray = ls at hl ⊢
  have hl : lv_has ls 4 [(0, .ref (q 0)), (1, .ref (q 14))] := hl
  have J78 : ∀ (Fn : Int32) (Fa : (Nat → Int32)) (Rn : Int32) (Ra : (Nat → Int32)) (Rb : (Nat → Int32)) (Rd : (Nat → Int32)) (QFn : Int32) (QFa : (Nat → Int32)) (QRn : Int32) (QRa : (Nat → Int32)) (QRb : (Nat → Int32)) (QRd : (Nat → Int32)) (x2 : Int32), fL_areAlike_J78 N Tn Ta QTn QTa Fn Fa Rn Ra Rb Rd QFn QFa QRn QRa QRb QRd x2 = some (r0, Fn9, Fa9, Rn9, Ra9, Rb9, Rd9, QFn9, QFa9, QRn9, QRa9, QRb9, QRd9) → ∀ (H : Heap) (locs : List Loc), va_P D vwCl (w_0_1_2_3_4_7_8_9_10_14_15_16_17_18_21_22_23_24 q cI cJ cD Tn Ta Fn Fa Rn Ra Rb Rd QTn QTa QFn QFa QRn QRa QRb QRd) H → va_S (gA q [0, 1, 2, 3, 4, 7, 8, 9, 10, 14, 15, 16, 17, 18, 21, 22, 23, 24]) s.heap H locs → ∀ ls : Array Slot, lv_has ls 4 [(2, .int x2)] → W p l e (headSpec wsL_areAlike rL_areAlike).room s m ([.ref (q 0), .ref (q 14)] : List Value).toArray below meth c H locs 0 0 (MQ below (gQ D (some (.int r0)) (w_0_1_2_3_4_7_8_9_10_14_15_16_17_18_21_22_23_24 q cI cJ cD Tn Ta Fn9 Fa9 Rn9 Ra9 Rb9 Rd9 QTn QTa QFn9 QFa9 QRn9 QRa9 QRb9 QRd9) (gA q [0, 1, 2, 3, 4, 7, 8, 9, 10, 14, 15, 16, 17, 18, 21, 22, 23, 24])) ([.ref (q 0), .ref (q 14)] : List Value).toArray s 0 0 (gA q [0, 1, 2, 3, 4, 7, 8, 9, 10, 14, 15, 16, 17, 18, 21, 22, 23, 24])) (F0 m 78 ls []) := by
    intro Fn Fa Rn Ra Rb Rd QFn QFa QRn QRa QRb QRd x2 hf H locs hP hS ls hl
    unfold fL_areAlike_J78 at hf
    refine lv_iload_n hx hb dL_areAlike_78 rfl (lv_at hl 0 rfl) ?_
    obtain ⟨g_1, hf⟩ := gd_some hf
    cases hf
    exact W.zret (ty := .boolean) hx hb hr (isB_nar g_1) (fun t ht hW => ⟨⟨rfl, by rw [ht]; exact hP⟩, hS.F ht⟩) hS.2.2 dL_areAlike_79
  have K41 : ∀ (n41 : Nat) (Fn : Int32) (Fa : (Nat → Int32)) (Rn : Int32) (Ra : (Nat → Int32)) (Rb : (Nat → Int32)) (Rd : (Nat → Int32)) (QFn : Int32) (QFa : (Nat → Int32)) (QRn : Int32) (QRa : (Nat → Int32)) (QRb : (Nat → Int32)) (QRd : (Nat → Int32)) (x2 : Int32) (x3 : Int32), fL_areAlike_H41 N Tn Ta QTn QTa n41 Fn Fa Rn Ra Rb Rd QFn QFa QRn QRa QRb QRd x2 x3 = some (r0, Fn9, Fa9, Rn9, Ra9, Rb9, Rd9, QFn9, QFa9, QRn9, QRa9, QRb9, QRd9) → ∀ (H : Heap) (locs : List Loc), va_P D vwCl (w_0_1_2_3_4_7_8_9_10_14_15_16_17_18_21_22_23_24 q cI cJ cD Tn Ta Fn Fa Rn Ra Rb Rd QTn QTa QFn QFa QRn QRa QRb QRd) H → va_S (gA q [0, 1, 2, 3, 4, 7, 8, 9, 10, 14, 15, 16, 17, 18, 21, 22, 23, 24]) s.heap H locs → ∀ ls : Array Slot, lv_has ls 4 [(0, .ref (q 0)), (1, .ref (q 14)), (2, .int x2), (3, .int x3)] → W p l e (headSpec wsL_areAlike rL_areAlike).room s m ([.ref (q 0), .ref (q 14)] : List Value).toArray below meth c H locs 0 0 (MQ below (gQ D (some (.int r0)) (w_0_1_2_3_4_7_8_9_10_14_15_16_17_18_21_22_23_24 q cI cJ cD Tn Ta Fn9 Fa9 Rn9 Ra9 Rb9 Rd9 QTn QTa QFn9 QFa9 QRn9 QRa9 QRb9 QRd9) (gA q [0, 1, 2, 3, 4, 7, 8, 9, 10, 14, 15, 16, 17, 18, 21, 22, 23, 24])) ([.ref (q 0), .ref (q 14)] : List Value).toArray s 0 0 (gA q [0, 1, 2, 3, 4, 7, 8, 9, 10, 14, 15, 16, 17, 18, 21, 22, 23, 24])) (F0 m 41 ls []) := by
    intro n41
    induction n41 with
    | zero =>
      intro Fn Fa Rn Ra Rb Rd QFn QFa QRn QRa QRb QRd x2 x3 hf
      exact nomatch (show (none : Option (Int32 × Int32 × (Nat → Int32) × Int32 × (Nat → Int32) × (Nat → Int32) × (Nat → Int32) × Int32 × (Nat → Int32) × Int32 × (Nat → Int32) × (Nat → Int32) × (Nat → Int32))) = some (r0, Fn9, Fa9, Rn9, Ra9, Rb9, Rd9, QFn9, QFa9, QRn9, QRa9, QRb9, QRd9) from hf)
    | succ n41 ih41 =>
      have J71 : ∀ (Fn : Int32) (Fa : (Nat → Int32)) (Rn : Int32) (Ra : (Nat → Int32)) (Rb : (Nat → Int32)) (Rd : (Nat → Int32)) (QFn : Int32) (QFa : (Nat → Int32)) (QRn : Int32) (QRa : (Nat → Int32)) (QRb : (Nat → Int32)) (QRd : (Nat → Int32)) (x3 : Int32) (y0 : Int32), fL_areAlike_J71 N Tn Ta QTn QTa (fL_areAlike_H41 N Tn Ta QTn QTa n41) Fn Fa Rn Ra Rb Rd QFn QFa QRn QRa QRb QRd x3 y0 = some (r0, Fn9, Fa9, Rn9, Ra9, Rb9, Rd9, QFn9, QFa9, QRn9, QRa9, QRb9, QRd9) → ∀ (H : Heap) (locs : List Loc), va_P D vwCl (w_0_1_2_3_4_7_8_9_10_14_15_16_17_18_21_22_23_24 q cI cJ cD Tn Ta Fn Fa Rn Ra Rb Rd QTn QTa QFn QFa QRn QRa QRb QRd) H → va_S (gA q [0, 1, 2, 3, 4, 7, 8, 9, 10, 14, 15, 16, 17, 18, 21, 22, 23, 24]) s.heap H locs → ∀ ls : Array Slot, lv_has ls 4 [(0, .ref (q 0)), (1, .ref (q 14)), (3, .int x3)] → W p l e (headSpec wsL_areAlike rL_areAlike).room s m ([.ref (q 0), .ref (q 14)] : List Value).toArray below meth c H locs 0 0 (MQ below (gQ D (some (.int r0)) (w_0_1_2_3_4_7_8_9_10_14_15_16_17_18_21_22_23_24 q cI cJ cD Tn Ta Fn9 Fa9 Rn9 Ra9 Rb9 Rd9 QTn QTa QFn9 QFa9 QRn9 QRa9 QRb9 QRd9) (gA q [0, 1, 2, 3, 4, 7, 8, 9, 10, 14, 15, 16, 17, 18, 21, 22, 23, 24])) ([.ref (q 0), .ref (q 14)] : List Value).toArray s 0 0 (gA q [0, 1, 2, 3, 4, 7, 8, 9, 10, 14, 15, 16, 17, 18, 21, 22, 23, 24])) (F0 m 71 ls [.int y0]) := by
        intro Fn Fa Rn Ra Rb Rd QFn QFa QRn QRa QRb QRd x3 y0 hf H locs hP hS ls hl
        unfold fL_areAlike_J71 at hf
        refine lv_istore_n (lv' := [(2, .int y0), (0, .ref (q 0)), (1, .ref (q 14)), (3, .int x3)]) hx hb dL_areAlike_71 rfl hl (by decide) rfl (fun ls hl => ?_)
        refine lv_iinc (v := (x3 + 1)) (lv' := [(3, .int (x3 + 1)), (2, .int y0), (0, .ref (q 0)), (1, .ref (q 14))]) hx hb dL_areAlike_72 hl (k := 3) rfl rfl (by decide) rfl (fun ls hl => ?_)
        refine lv_goto (tgt := 41) hx hb dL_areAlike_75 (by decide) ?_
        exact ih41 Fn Fa Rn Ra Rb Rd QFn QFa QRn QRa QRb QRd y0 (x3 + 1) hf _ _ hP hS _ (lv_sub hl [2, 3, 1, 0] rfl)
      intro Fn Fa Rn Ra Rb Rd QFn QFa QRn QRa QRb QRd x2 x3 hf H locs hP hS ls hl
      have hf : fL_areAlike_B41 N Tn Ta QTn QTa (fL_areAlike_H41 N Tn Ta QTn QTa n41) Fn Fa Rn Ra Rb Rd QFn QFa QRn QRa QRb QRd x2 x3 = some (r0, Fn9, Fa9, Rn9, Ra9, Rb9, Rd9, QFn9, QFa9, QRn9, QRa9, QRb9, QRd9) := hf
      unfold fL_areAlike_B41 at hf
      refine lv_iload_n hx hb dL_areAlike_41 rfl (lv_at hl 3 rfl) ?_
      refine lv_aload_n hx hb dL_areAlike_42 rfl (lv_at hl 0 rfl) ?_
      obtain ⟨r43, hc, hf⟩ := bn_some hf
      try dsimp only at hf
      refine g_call0 (ws' := (w_0_1_2_3_4_7_8_9_10_14_15_16_17_18_21_22_23_24 q cI cJ cD Tn Ta Fn Fa Rn Ra Rb Rd QTn QTa QFn QFa QRn QRa QRb QRd)) (st1 := [.int r43, .int x3]) hq [0, 1, 2, 3, 4, 7, 8, 9, 10, 14, 15, 16, 17, 18, 21, 22, 23, 24] [0, 1] [.inl 0, .inl 1, .inr 2, .inr 3, .inr 4, .inr 5, .inr 6, .inr 7, .inr 8, .inr 9, .inr 10, .inr 11, .inr 12, .inr 13, .inr 14, .inr 15, .inr 16, .inr 17] (va_runV (As := []) (rest := [.int x3]) ⟨hx, hb, hml, hown, hts⟩ (kX8_length l D cI cJ cD q hq.o N Tn r43 hc) (cwV 0 hts gL_areAlike_X8_length rfl rfl rfl (by decide +kernel) ⟨(Nat.le_of_ble_eq_true rfl), (Nat.le_of_ble_eq_true rfl)⟩) ⟨gP_blind, va_recv hE.1 hP (ci := 6) (q0 := 0) rfl rfl, fun U hU hW => ⟨rfl, by rw [hU]; exact hP.sub (ws' := (w_0_1 q cI cJ cD Tn)) [0, 1] rfl, gEv.warm hW hE⟩⟩ rfl rfl hl.1 rfl (lv_room (Nat.le_of_ble_eq_true rfl)) dL_areAlike_43 ⟨Nat.zero_le _, Nat.zero_le _⟩) hP hS (gSub rfl) rfl rfl rfl rfl rfl (fun H locs hP hS => ?_)
      refine lv_icmp_ge (tgt := 78) hx hb dL_areAlike_46 (by decide) (fun c_2 => ?_) (fun c_2 => ?_)
      · have hf := (if_pos c_2).symm.trans hf
        exact J78 Fn Fa Rn Ra Rb Rd QFn QFa QRn QRa QRb QRd x2 hf _ _ hP hS _ (lv_sub hl [2] rfl)
      · have hf := (if_neg c_2).symm.trans hf
        refine lv_iload_n hx hb dL_areAlike_49 rfl (lv_at hl 2 rfl) ?_
        refine lv_if_eq (tgt := 78) hx hb dL_areAlike_50 (by decide) (fun c_3 => ?_) (fun c_3 => ?_)
        · have hf := (if_pos c_3).symm.trans hf
          exact J78 Fn Fa Rn Ra Rb Rd QFn QFa QRn QRa QRb QRd x2 hf _ _ hP hS _ (lv_sub hl [2] rfl)
        · have hf := (if_neg c_3).symm.trans hf
          refine lv_aload_n hx hb dL_areAlike_53 rfl (lv_at hl 0 rfl) ?_
          refine lv_iload_n hx hb dL_areAlike_54 rfl (lv_at hl 3 rfl) ?_
          rcases bx_some hf with ⟨e55, hc, hf⟩ | ⟨r55, hc, hf⟩
          · exact nomatch hf
          try dsimp only at hf
          refine g_call0 (ws' := (w_0_1_2_3_4_7_8_9_10_14_15_16_17_18_21_22_23_24 q cI cJ cD Tn Ta Fn Fa Rn Ra Rb Rd QTn QTa QFn QFa QRn QRa QRb QRd)) (st1 := [.int r55]) hq [0, 1, 2, 3, 4, 7, 8, 9, 10, 14, 15, 16, 17, 18, 21, 22, 23, 24] [0, 1, 2] [.inl 0, .inl 1, .inl 2, .inr 3, .inr 4, .inr 5, .inr 6, .inr 7, .inr 8, .inr 9, .inr 10, .inr 11, .inr 12, .inr 13, .inr 14, .inr 15, .inr 16, .inr 17] (va_runV (As := [.int x3]) (rest := []) ⟨hx, hb, hml, hown, hts⟩ (kX8_letterAt l D cI cJ cD q hq.o N Tn Ta x3 r55 hc) (cwV 1 hts gL_areAlike_X8_letterAt rfl rfl rfl (by decide +kernel) ⟨(Nat.le_of_ble_eq_true rfl), (Nat.le_of_ble_eq_true rfl)⟩) ⟨gP_blind, va_recv hE.1 hP (ci := 6) (q0 := 0) rfl rfl, fun U hU hW => ⟨rfl, by rw [hU]; exact hP.sub (ws' := (w_0_1_2 q cI cJ cD Tn Ta)) [0, 1, 2] rfl, gEv.warm hW hE⟩⟩ rfl rfl hl.1 rfl (lv_room (Nat.le_of_ble_eq_true rfl)) dL_areAlike_55 ⟨Nat.zero_le _, Nat.zero_le _⟩) hP hS (gSub rfl) rfl rfl rfl rfl rfl (fun H locs hP hS => ?_)
          refine lv_aload_n hx hb dL_areAlike_58 rfl (lv_at hl 1 rfl) ?_
          refine lv_iload_n hx hb dL_areAlike_59 rfl (lv_at hl 3 rfl) ?_
          rcases bx_some hf with ⟨e60, hc, hf⟩ | ⟨r60, hc, hf⟩
          · exact nomatch hf
          try dsimp only at hf
          refine g_callS0 (ws' := (w_0_1_2_3_4_7_8_9_10_14_15_16_17_18_21_22_23_24 q cI cJ cD Tn Ta Fn Fa Rn Ra Rb Rd QTn QTa QFn QFa QRn QRa QRb QRd)) (st1 := [.int r60, .int r55]) hq [0, 1, 2, 3, 4, 7, 8, 9, 10, 14, 15, 16, 17, 18, 21, 22, 23, 24] [14, 15, 16] (gA_sh [0, 1, 2]) [.inr 0, .inr 1, .inr 2, .inr 3, .inr 4, .inr 5, .inr 6, .inr 7, .inr 8, .inl 0, .inl 1, .inl 2, .inr 12, .inr 13, .inr 14, .inr 15, .inr 16, .inr 17] (va_runV (As := [.int x3]) (rest := [.int r55]) ⟨hx, hb, hml, hown, hts⟩ (kX8_letterAt l D cI cJ cD (sh q) hq.p N QTn QTa x3 r60 hc) (cwV 1 hts gL_areAlike_X8_letterAt rfl rfl rfl (by decide +kernel) ⟨(Nat.le_of_ble_eq_true rfl), (Nat.le_of_ble_eq_true rfl)⟩) ⟨gP_blind, va_recv hE.1 hP (ci := 6) (q0 := 9) rfl rfl, fun U hU hW => ⟨rfl, by rw [hU]; exact hP.sub (ws' := (w_0_1_2 (sh q) cI cJ cD QTn QTa)) [9, 10, 11] rfl, gEv.warm hW hE⟩⟩ rfl rfl hl.1 rfl (lv_room (Nat.le_of_ble_eq_true rfl)) dL_areAlike_60 ⟨Nat.zero_le _, Nat.zero_le _⟩) hP hS (gSub rfl) rfl rfl rfl rfl rfl (fun H locs hP hS => ?_)
          refine lv_icmp_ne (tgt := 70) hx hb dL_areAlike_63 (by decide) (fun c_4 => ?_) (fun c_4 => ?_)
          · have hf := (if_neg c_4).symm.trans hf
            refine lv_iconst (v := (0 : Int32)) hx hb dL_areAlike_70 (by decide) ?_
            exact J71 Fn Fa Rn Ra Rb Rd QFn QFa QRn QRa QRb QRd x3 (0 : Int32) hf _ _ hP hS _ (lv_sub hl [0, 1, 3] rfl)
          · have hf := (if_pos c_4).symm.trans hf
            refine lv_iconst (v := (1 : Int32)) hx hb dL_areAlike_66 (by decide) ?_
            refine lv_goto (tgt := 71) hx hb dL_areAlike_67 (by decide) ?_
            exact J71 Fn Fa Rn Ra Rb Rd QFn QFa QRn QRa QRb QRd x3 (1 : Int32) hf _ _ hP hS _ (lv_sub hl [0, 1, 3] rfl)
  have J38 : ∀ (Fn : Int32) (Fa : (Nat → Int32)) (Rn : Int32) (Ra : (Nat → Int32)) (Rb : (Nat → Int32)) (Rd : (Nat → Int32)) (QFn : Int32) (QFa : (Nat → Int32)) (QRn : Int32) (QRa : (Nat → Int32)) (QRb : (Nat → Int32)) (QRd : (Nat → Int32)) (y0 : Int32), fL_areAlike_J38 N Tn Ta QTn QTa Fn Fa Rn Ra Rb Rd QFn QFa QRn QRa QRb QRd y0 = some (r0, Fn9, Fa9, Rn9, Ra9, Rb9, Rd9, QFn9, QFa9, QRn9, QRa9, QRb9, QRd9) → ∀ (H : Heap) (locs : List Loc), va_P D vwCl (w_0_1_2_3_4_7_8_9_10_14_15_16_17_18_21_22_23_24 q cI cJ cD Tn Ta Fn Fa Rn Ra Rb Rd QTn QTa QFn QFa QRn QRa QRb QRd) H → va_S (gA q [0, 1, 2, 3, 4, 7, 8, 9, 10, 14, 15, 16, 17, 18, 21, 22, 23, 24]) s.heap H locs → ∀ ls : Array Slot, lv_has ls 4 [(0, .ref (q 0)), (1, .ref (q 14))] → W p l e (headSpec wsL_areAlike rL_areAlike).room s m ([.ref (q 0), .ref (q 14)] : List Value).toArray below meth c H locs 0 0 (MQ below (gQ D (some (.int r0)) (w_0_1_2_3_4_7_8_9_10_14_15_16_17_18_21_22_23_24 q cI cJ cD Tn Ta Fn9 Fa9 Rn9 Ra9 Rb9 Rd9 QTn QTa QFn9 QFa9 QRn9 QRa9 QRb9 QRd9) (gA q [0, 1, 2, 3, 4, 7, 8, 9, 10, 14, 15, 16, 17, 18, 21, 22, 23, 24])) ([.ref (q 0), .ref (q 14)] : List Value).toArray s 0 0 (gA q [0, 1, 2, 3, 4, 7, 8, 9, 10, 14, 15, 16, 17, 18, 21, 22, 23, 24])) (F0 m 38 ls [.int y0]) := by
    intro Fn Fa Rn Ra Rb Rd QFn QFa QRn QRa QRb QRd y0 hf H locs hP hS ls hl
    unfold fL_areAlike_J38 at hf
    refine lv_istore_n (lv' := [(2, .int y0), (0, .ref (q 0)), (1, .ref (q 14))]) hx hb dL_areAlike_38 rfl hl (by decide) rfl (fun ls hl => ?_)
    refine lv_iconst (v := (0 : Int32)) hx hb dL_areAlike_39 (by decide) ?_
    refine lv_istore_n (lv' := [(3, .int (0 : Int32)), (2, .int y0), (0, .ref (q 0)), (1, .ref (q 14))]) hx hb dL_areAlike_40 rfl hl (by decide) rfl (fun ls hl => ?_)
    exact K41 N Fn Fa Rn Ra Rb Rd QFn QFa QRn QRa QRb QRd y0 (0 : Int32) hf _ _ hP hS _ (lv_sub hl [2, 3, 1, 0] rfl)
  have J37 : ∀ (Fn : Int32) (Fa : (Nat → Int32)) (Rn : Int32) (Ra : (Nat → Int32)) (Rb : (Nat → Int32)) (Rd : (Nat → Int32)) (QFn : Int32) (QFa : (Nat → Int32)) (QRn : Int32) (QRa : (Nat → Int32)) (QRb : (Nat → Int32)) (QRd : (Nat → Int32)), fL_areAlike_J37 N Tn Ta QTn QTa Fn Fa Rn Ra Rb Rd QFn QFa QRn QRa QRb QRd = some (r0, Fn9, Fa9, Rn9, Ra9, Rb9, Rd9, QFn9, QFa9, QRn9, QRa9, QRb9, QRd9) → ∀ (H : Heap) (locs : List Loc), va_P D vwCl (w_0_1_2_3_4_7_8_9_10_14_15_16_17_18_21_22_23_24 q cI cJ cD Tn Ta Fn Fa Rn Ra Rb Rd QTn QTa QFn QFa QRn QRa QRb QRd) H → va_S (gA q [0, 1, 2, 3, 4, 7, 8, 9, 10, 14, 15, 16, 17, 18, 21, 22, 23, 24]) s.heap H locs → ∀ ls : Array Slot, lv_has ls 4 [(0, .ref (q 0)), (1, .ref (q 14))] → W p l e (headSpec wsL_areAlike rL_areAlike).room s m ([.ref (q 0), .ref (q 14)] : List Value).toArray below meth c H locs 0 0 (MQ below (gQ D (some (.int r0)) (w_0_1_2_3_4_7_8_9_10_14_15_16_17_18_21_22_23_24 q cI cJ cD Tn Ta Fn9 Fa9 Rn9 Ra9 Rb9 Rd9 QTn QTa QFn9 QFa9 QRn9 QRa9 QRb9 QRd9) (gA q [0, 1, 2, 3, 4, 7, 8, 9, 10, 14, 15, 16, 17, 18, 21, 22, 23, 24])) ([.ref (q 0), .ref (q 14)] : List Value).toArray s 0 0 (gA q [0, 1, 2, 3, 4, 7, 8, 9, 10, 14, 15, 16, 17, 18, 21, 22, 23, 24])) (F0 m 37 ls []) := by
    intro Fn Fa Rn Ra Rb Rd QFn QFa QRn QRa QRb QRd hf H locs hP hS ls hl
    unfold fL_areAlike_J37 at hf
    refine lv_iconst (v := (0 : Int32)) hx hb dL_areAlike_37 (by decide) ?_
    exact J38 Fn Fa Rn Ra Rb Rd QFn QFa QRn QRa QRb QRd (0 : Int32) hf _ _ hP hS _ (lv_sub hl [0, 1] rfl)
  unfold fL_areAlike at hf
  refine lv_aload_n hx hb dL_areAlike_0 rfl (lv_at hl 0 rfl) ?_
  obtain ⟨r1, hc, hf⟩ := bn_some hf
  try dsimp only at hf
  refine g_call0 (ws' := (w_0_1_2_3_4_7_8_9_10_14_15_16_17_18_21_22_23_24 q cI cJ cD Tn Ta Fn Fa Rn Ra Rb Rd QTn QTa QFn QFa QRn QRa QRb QRd)) (st1 := [.int r1]) hq [0, 1, 2, 3, 4, 7, 8, 9, 10, 14, 15, 16, 17, 18, 21, 22, 23, 24] [0, 1] [.inl 0, .inl 1, .inr 2, .inr 3, .inr 4, .inr 5, .inr 6, .inr 7, .inr 8, .inr 9, .inr 10, .inr 11, .inr 12, .inr 13, .inr 14, .inr 15, .inr 16, .inr 17] (va_runV (As := []) (rest := []) ⟨hx, hb, hml, hown, hts⟩ (kX8_length l D cI cJ cD q hq.o N Tn r1 hc) (cwV 0 hts gL_areAlike_X8_length rfl rfl rfl (by decide +kernel) ⟨(Nat.le_of_ble_eq_true rfl), (Nat.le_of_ble_eq_true rfl)⟩) ⟨gP_blind, va_recv hE.1 hP (ci := 6) (q0 := 0) rfl rfl, fun U hU hW => ⟨rfl, by rw [hU]; exact hP.sub (ws' := (w_0_1 q cI cJ cD Tn)) [0, 1] rfl, gEv.warm hW hE⟩⟩ rfl rfl hl.1 rfl (lv_room (Nat.le_of_ble_eq_true rfl)) dL_areAlike_1 ⟨Nat.zero_le _, Nat.zero_le _⟩) hP hS (gSub rfl) rfl rfl rfl rfl rfl (fun H locs hP hS => ?_)
  refine lv_aload_n hx hb dL_areAlike_4 rfl (lv_at hl 1 rfl) ?_
  obtain ⟨r5, hc, hf⟩ := bn_some hf
  try dsimp only at hf
  refine g_callS0 (ws' := (w_0_1_2_3_4_7_8_9_10_14_15_16_17_18_21_22_23_24 q cI cJ cD Tn Ta Fn Fa Rn Ra Rb Rd QTn QTa QFn QFa QRn QRa QRb QRd)) (st1 := [.int r5, .int r1]) hq [0, 1, 2, 3, 4, 7, 8, 9, 10, 14, 15, 16, 17, 18, 21, 22, 23, 24] [14, 15] (gA_sh [0, 1]) [.inr 0, .inr 1, .inr 2, .inr 3, .inr 4, .inr 5, .inr 6, .inr 7, .inr 8, .inl 0, .inl 1, .inr 11, .inr 12, .inr 13, .inr 14, .inr 15, .inr 16, .inr 17] (va_runV (As := []) (rest := [.int r1]) ⟨hx, hb, hml, hown, hts⟩ (kX8_length l D cI cJ cD (sh q) hq.p N QTn r5 hc) (cwV 0 hts gL_areAlike_X8_length rfl rfl rfl (by decide +kernel) ⟨(Nat.le_of_ble_eq_true rfl), (Nat.le_of_ble_eq_true rfl)⟩) ⟨gP_blind, va_recv hE.1 hP (ci := 6) (q0 := 9) rfl rfl, fun U hU hW => ⟨rfl, by rw [hU]; exact hP.sub (ws' := (w_0_1 (sh q) cI cJ cD QTn)) [9, 10] rfl, gEv.warm hW hE⟩⟩ rfl rfl hl.1 rfl (lv_room (Nat.le_of_ble_eq_true rfl)) dL_areAlike_5 ⟨Nat.zero_le _, Nat.zero_le _⟩) hP hS (gSub rfl) rfl rfl rfl rfl rfl (fun H locs hP hS => ?_)
  refine lv_icmp_ne (tgt := 37) hx hb dL_areAlike_8 (by decide) (fun c_5 => ?_) (fun c_5 => ?_)
  · have hf := (if_neg c_5).symm.trans hf
    exact J37 Fn Fa Rn Ra Rb Rd QFn QFa QRn QRa QRb QRd hf _ _ hP hS _ (lv_sub hl [0, 1] rfl)
  · have hf := (if_pos c_5).symm.trans hf
    refine lv_aload_n hx hb dL_areAlike_11 rfl (lv_at hl 0 rfl) ?_
    obtain ⟨⟨r12, Fn12, Fa12⟩, hc, hf⟩ := bn_some hf
    try dsimp only at hf
    refine g_call0 (ws' := (w_0_1_2_3_4_7_8_9_10_14_15_16_17_18_21_22_23_24 q cI cJ cD Tn Ta Fn12 Fa12 Rn Ra Rb Rd QTn QTa QFn QFa QRn QRa QRb QRd)) (st1 := [.int r12]) hq [0, 1, 2, 3, 4, 7, 8, 9, 10, 14, 15, 16, 17, 18, 21, 22, 23, 24] [0, 1, 2, 3, 4] [.inl 0, .inl 1, .inl 2, .inl 3, .inl 4, .inr 5, .inr 6, .inr 7, .inr 8, .inr 9, .inr 10, .inr 11, .inr 12, .inr 13, .inr 14, .inr 15, .inr 16, .inr 17] (va_runV (As := []) (rest := []) ⟨hx, hb, hml, hown, hts⟩ (kX8_factors l D cI cJ cD q hq.o N Tn Ta Fn Fa r12 Fn12 Fa12 hc) (cwV 0 hts gL_areAlike_X8_factors rfl rfl rfl (by decide +kernel) ⟨(Nat.le_of_ble_eq_true rfl), (Nat.le_of_ble_eq_true rfl)⟩) ⟨gP_blind, va_recv hE.1 hP (ci := 6) (q0 := 0) rfl rfl, fun U hU hW => ⟨rfl, by rw [hU]; exact hP.sub (ws' := (w_0_1_2_3_4 q cI cJ cD Tn Ta Fn Fa)) [0, 1, 2, 3, 4] rfl, gEv.warm hW hE⟩⟩ rfl rfl hl.1 rfl (lv_room (Nat.le_of_ble_eq_true rfl)) dL_areAlike_12 ⟨Nat.zero_le _, Nat.zero_le _⟩) hP hS (gSub rfl) rfl rfl rfl rfl rfl (fun H locs hP hS => ?_)
    refine lv_aload_n hx hb dL_areAlike_15 rfl (lv_at hl 1 rfl) ?_
    obtain ⟨⟨r16, QFn16, QFa16⟩, hc, hf⟩ := bn_some hf
    try dsimp only at hf
    refine g_callS0 (ws' := (w_0_1_2_3_4_7_8_9_10_14_15_16_17_18_21_22_23_24 q cI cJ cD Tn Ta Fn12 Fa12 Rn Ra Rb Rd QTn QTa QFn16 QFa16 QRn QRa QRb QRd)) (st1 := [.int r16, .int r12]) hq [0, 1, 2, 3, 4, 7, 8, 9, 10, 14, 15, 16, 17, 18, 21, 22, 23, 24] [14, 15, 16, 17, 18] (gA_sh [0, 1, 2, 3, 4]) [.inr 0, .inr 1, .inr 2, .inr 3, .inr 4, .inr 5, .inr 6, .inr 7, .inr 8, .inl 0, .inl 1, .inl 2, .inl 3, .inl 4, .inr 14, .inr 15, .inr 16, .inr 17] (va_runV (As := []) (rest := [.int r12]) ⟨hx, hb, hml, hown, hts⟩ (kX8_factors l D cI cJ cD (sh q) hq.p N QTn QTa QFn QFa r16 QFn16 QFa16 hc) (cwV 0 hts gL_areAlike_X8_factors rfl rfl rfl (by decide +kernel) ⟨(Nat.le_of_ble_eq_true rfl), (Nat.le_of_ble_eq_true rfl)⟩) ⟨gP_blind, va_recv hE.1 hP (ci := 6) (q0 := 9) rfl rfl, fun U hU hW => ⟨rfl, by rw [hU]; exact hP.sub (ws' := (w_0_1_2_3_4 (sh q) cI cJ cD QTn QTa QFn QFa)) [9, 10, 11, 12, 13] rfl, gEv.warm hW hE⟩⟩ rfl rfl hl.1 rfl (lv_room (Nat.le_of_ble_eq_true rfl)) dL_areAlike_16 ⟨Nat.zero_le _, Nat.zero_le _⟩) hP hS (gSub rfl) rfl rfl rfl rfl rfl (fun H locs hP hS => ?_)
    refine lv_icmp_ne (tgt := 37) hx hb dL_areAlike_19 (by decide) (fun c_6 => ?_) (fun c_6 => ?_)
    · have hf := (if_neg c_6).symm.trans hf
      exact J37 Fn12 Fa12 Rn Ra Rb Rd QFn16 QFa16 QRn QRa QRb QRd hf _ _ hP hS _ (lv_sub hl [0, 1] rfl)
    · have hf := (if_pos c_6).symm.trans hf
      refine lv_aload_n hx hb dL_areAlike_22 rfl (lv_at hl 0 rfl) ?_
      obtain ⟨⟨r23, Rn23, Ra23, Rb23, Rd23⟩, hc, hf⟩ := bn_some hf
      try dsimp only at hf
      refine g_call0 (ws' := (w_0_1_2_3_4_7_8_9_10_14_15_16_17_18_21_22_23_24 q cI cJ cD Tn Ta Fn12 Fa12 Rn23 Ra23 Rb23 Rd23 QTn QTa QFn16 QFa16 QRn QRa QRb QRd)) (st1 := [.int r23]) hq [0, 1, 2, 3, 4, 7, 8, 9, 10, 14, 15, 16, 17, 18, 21, 22, 23, 24] [0, 1, 2, 7, 8, 9, 10] [.inl 0, .inl 1, .inl 2, .inr 3, .inr 4, .inl 3, .inl 4, .inl 5, .inl 6, .inr 9, .inr 10, .inr 11, .inr 12, .inr 13, .inr 14, .inr 15, .inr 16, .inr 17] (va_runV (As := []) (rest := []) ⟨hx, hb, hml, hown, hts⟩ (kX8_runs l D cI cJ cD q hq.o N Tn Ta Rn Ra Rb Rd r23 Rn23 Ra23 Rb23 Rd23 hc) (cwV 0 hts gL_areAlike_X8_runs rfl rfl rfl (by decide +kernel) ⟨(Nat.le_of_ble_eq_true rfl), (Nat.le_of_ble_eq_true rfl)⟩) ⟨gP_blind, va_recv hE.1 hP (ci := 6) (q0 := 0) rfl rfl, fun U hU hW => ⟨rfl, by rw [hU]; exact hP.sub (ws' := (w_0_1_2_7_8_9_10 q cI cJ cD Tn Ta Rn Ra Rb Rd)) [0, 1, 2, 5, 6, 7, 8] rfl, gEv.warm hW hE⟩⟩ rfl rfl hl.1 rfl (lv_room (Nat.le_of_ble_eq_true rfl)) dL_areAlike_23 ⟨Nat.zero_le _, Nat.zero_le _⟩) hP hS (gSub rfl) rfl rfl rfl rfl rfl (fun H locs hP hS => ?_)
      refine lv_aload_n hx hb dL_areAlike_26 rfl (lv_at hl 1 rfl) ?_
      obtain ⟨⟨r27, QRn27, QRa27, QRb27, QRd27⟩, hc, hf⟩ := bn_some hf
      try dsimp only at hf
      refine g_callS0 (ws' := (w_0_1_2_3_4_7_8_9_10_14_15_16_17_18_21_22_23_24 q cI cJ cD Tn Ta Fn12 Fa12 Rn23 Ra23 Rb23 Rd23 QTn QTa QFn16 QFa16 QRn27 QRa27 QRb27 QRd27)) (st1 := [.int r27, .int r23]) hq [0, 1, 2, 3, 4, 7, 8, 9, 10, 14, 15, 16, 17, 18, 21, 22, 23, 24] [14, 15, 16, 21, 22, 23, 24] (gA_sh [0, 1, 2, 7, 8, 9, 10]) [.inr 0, .inr 1, .inr 2, .inr 3, .inr 4, .inr 5, .inr 6, .inr 7, .inr 8, .inl 0, .inl 1, .inl 2, .inr 12, .inr 13, .inl 3, .inl 4, .inl 5, .inl 6] (va_runV (As := []) (rest := [.int r23]) ⟨hx, hb, hml, hown, hts⟩ (kX8_runs l D cI cJ cD (sh q) hq.p N QTn QTa QRn QRa QRb QRd r27 QRn27 QRa27 QRb27 QRd27 hc) (cwV 0 hts gL_areAlike_X8_runs rfl rfl rfl (by decide +kernel) ⟨(Nat.le_of_ble_eq_true rfl), (Nat.le_of_ble_eq_true rfl)⟩) ⟨gP_blind, va_recv hE.1 hP (ci := 6) (q0 := 9) rfl rfl, fun U hU hW => ⟨rfl, by rw [hU]; exact hP.sub (ws' := (w_0_1_2_7_8_9_10 (sh q) cI cJ cD QTn QTa QRn QRa QRb QRd)) [9, 10, 11, 14, 15, 16, 17] rfl, gEv.warm hW hE⟩⟩ rfl rfl hl.1 rfl (lv_room (Nat.le_of_ble_eq_true rfl)) dL_areAlike_27 ⟨Nat.zero_le _, Nat.zero_le _⟩) hP hS (gSub rfl) rfl rfl rfl rfl rfl (fun H locs hP hS => ?_)
      refine lv_icmp_ne (tgt := 37) hx hb dL_areAlike_30 (by decide) (fun c_7 => ?_) (fun c_7 => ?_)
      · have hf := (if_neg c_7).symm.trans hf
        exact J37 Fn12 Fa12 Rn23 Ra23 Rb23 Rd23 QFn16 QFa16 QRn27 QRa27 QRb27 QRd27 hf _ _ hP hS _ (lv_sub hl [0, 1] rfl)
      · have hf := (if_pos c_7).symm.trans hf
        refine lv_iconst (v := (1 : Int32)) hx hb dL_areAlike_33 (by decide) ?_
        refine lv_goto (tgt := 38) hx hb dL_areAlike_34 (by decide) ?_
        exact J38 Fn12 Fa12 Rn23 Ra23 Rb23 Rd23 QFn16 QFa16 QRn27 QRa27 QRb27 QRd27 (1 : Int32) hf _ _ hP hS _ (lv_sub hl [0, 1] rfl)
set_option maxHeartbeats 4000000 in
set_option maxRecDepth 100000 in
theorem kL_areFactorsSo (l : Launch) (D : va_G) (cI cJ cD : ClassId) (q : Nat → Nat) (hq : gInj 14 q) (N : Nat) (Tn : Int32) (Ta : (Nat → Int32)) (Fn : Int32) (Fa : (Nat → Int32)) (r0 : Int32) (Fn9 : Int32) (Fa9 : (Nat → Int32)) (hf : fL_areFactorsSo N Tn Ta Fn Fa = some (r0, Fn9, Fa9)) : Met l yL_areFactorsSo wsL_areFactorsSo rL_areFactorsSo (gP D cI cJ cD [.ref (q 0)] (w_0_1_2_3_4 q cI cJ cD Tn Ta Fn Fa)) (gQ D (some (.int r0)) (w_0_1_2_3_4 q cI cJ cD Tn Ta Fn9 Fa9) (gA q [0, 1, 2, 3, 4])) 0 0 (gA q [0, 1, 2, 3, 4]) := by
  refine Met.ofW (cc := cL_areFactorsSo) (maxL := 5) (ret := (some .boolean)) (by decide +kernel) rfl ?_
  intro p e s m args below meth c s₁ B hml hv
  obtain ⟨rfl, hP, hE⟩ := hv
  have hx := B.exec
  have hb := B.bytes
  have hr := B.returns
  have hts := atoms_spec (ws := wsL_areFactorsSo) B.pre
  have hown : s.vm.findClass RL = some m.cls := findClass_of_methodNamed B.named
  have hlocks := B.notSynchronized
  have hS : va_S (gA q [0, 1, 2, 3, 4]) s.heap s.heap [] := va_S.rf
  have hl := lv_entry ([.ref (q 0)]) (n := 5) (Nat.le_of_ble_eq_true rfl)
  rw [lg_entry_eq]
  generalize (lg_sl ([.ref (q 0)]) ++ List.replicate (5 - (lg_sl ([.ref (q 0)])).length) Slot.unset).toArray = ls at hl ⊢
  have hl : lv_has ls 5 [(0, .ref (q 0))] := hl
  have J82 : ∀ (Fn : Int32) (Fa : (Nat → Int32)), fL_areFactorsSo_J82 N Tn Ta Fn Fa = some (r0, Fn9, Fa9) → ∀ (H : Heap) (locs : List Loc), va_P D vwCl (w_0_1_2_3_4 q cI cJ cD Tn Ta Fn Fa) H → va_S (gA q [0, 1, 2, 3, 4]) s.heap H locs → ∀ ls : Array Slot, lv_has ls 5 [] → W p l e (headSpec wsL_areFactorsSo rL_areFactorsSo).room s m ([.ref (q 0)] : List Value).toArray below meth c H locs 0 0 (MQ below (gQ D (some (.int r0)) (w_0_1_2_3_4 q cI cJ cD Tn Ta Fn9 Fa9) (gA q [0, 1, 2, 3, 4])) ([.ref (q 0)] : List Value).toArray s 0 0 (gA q [0, 1, 2, 3, 4])) (F0 m 82 ls []) := by
    intro Fn Fa hf H locs hP hS ls hl
    unfold fL_areFactorsSo_J82 at hf
    refine lv_iconst (v := (0 : Int32)) hx hb dL_areFactorsSo_82 (by decide) ?_
    obtain ⟨g_1, hf⟩ := gd_some hf
    cases hf
    exact W.zret (ty := .boolean) hx hb hr (isB_nar g_1) (fun t ht hW => ⟨⟨rfl, by rw [ht]; exact hP⟩, hS.F ht⟩) hS.2.2 dL_areFactorsSo_83
  have J130 : ∀ (Fn : Int32) (Fa : (Nat → Int32)) (y0 : Int32), fL_areFactorsSo_J130 N Tn Ta Fn Fa y0 = some (r0, Fn9, Fa9) → ∀ (H : Heap) (locs : List Loc), va_P D vwCl (w_0_1_2_3_4 q cI cJ cD Tn Ta Fn Fa) H → va_S (gA q [0, 1, 2, 3, 4]) s.heap H locs → ∀ ls : Array Slot, lv_has ls 5 [] → W p l e (headSpec wsL_areFactorsSo rL_areFactorsSo).room s m ([.ref (q 0)] : List Value).toArray below meth c H locs 0 0 (MQ below (gQ D (some (.int r0)) (w_0_1_2_3_4 q cI cJ cD Tn Ta Fn9 Fa9) (gA q [0, 1, 2, 3, 4])) ([.ref (q 0)] : List Value).toArray s 0 0 (gA q [0, 1, 2, 3, 4])) (F0 m 130 ls [.int y0]) := by
    intro Fn Fa y0 hf H locs hP hS ls hl
    unfold fL_areFactorsSo_J130 at hf
    obtain ⟨g_2, hf⟩ := gd_some hf
    cases hf
    exact W.zret (ty := .boolean) hx hb hr (isB_nar g_2) (fun t ht hW => ⟨⟨rfl, by rw [ht]; exact hP⟩, hS.F ht⟩) hS.2.2 dL_areFactorsSo_130
  have J117 : ∀ (Fn : Int32) (Fa : (Nat → Int32)) (x1 : Int32), fL_areFactorsSo_J117 N Tn Ta Fn Fa x1 = some (r0, Fn9, Fa9) → ∀ (H : Heap) (locs : List Loc), va_P D vwCl (w_0_1_2_3_4 q cI cJ cD Tn Ta Fn Fa) H → va_S (gA q [0, 1, 2, 3, 4]) s.heap H locs → ∀ ls : Array Slot, lv_has ls 5 [(0, .ref (q 0)), (1, .int x1)] → W p l e (headSpec wsL_areFactorsSo rL_areFactorsSo).room s m ([.ref (q 0)] : List Value).toArray below meth c H locs 0 0 (MQ below (gQ D (some (.int r0)) (w_0_1_2_3_4 q cI cJ cD Tn Ta Fn9 Fa9) (gA q [0, 1, 2, 3, 4])) ([.ref (q 0)] : List Value).toArray s 0 0 (gA q [0, 1, 2, 3, 4])) (F0 m 117 ls []) := by
    intro Fn Fa x1 hf H locs hP hS ls hl
    unfold fL_areFactorsSo_J117 at hf
    refine lv_iload_n hx hb dL_areFactorsSo_117 rfl (lv_at hl 1 rfl) ?_
    refine lv_aload_n hx hb dL_areFactorsSo_118 rfl (lv_at hl 0 rfl) ?_
    obtain ⟨r119, hc, hf⟩ := bn_some hf
    try dsimp only at hf
    refine g_call0 (ws' := (w_0_1_2_3_4 q cI cJ cD Tn Ta Fn Fa)) (st1 := [.int r119, .int x1]) hq [0, 1, 2, 3, 4] [0, 1] [.inl 0, .inl 1, .inr 2, .inr 3, .inr 4] (va_runV (As := []) (rest := [.int x1]) ⟨hx, hb, hml, hown, hts⟩ (kX8_length l D cI cJ cD q hq N Tn r119 hc) (cwV 0 hts gL_areFactorsSo_X8_length rfl rfl rfl (by decide +kernel) ⟨(Nat.le_of_ble_eq_true rfl), (Nat.le_of_ble_eq_true rfl)⟩) ⟨gP_blind, va_recv hE.1 hP (ci := 6) (q0 := 0) rfl rfl, fun U hU hW => ⟨rfl, by rw [hU]; exact hP.sub (ws' := (w_0_1 q cI cJ cD Tn)) [0, 1] rfl, gEv.warm hW hE⟩⟩ rfl rfl hl.1 rfl (lv_room (Nat.le_of_ble_eq_true rfl)) dL_areFactorsSo_119 ⟨Nat.zero_le _, Nat.zero_le _⟩) hP hS (gSub rfl) rfl rfl rfl rfl rfl (fun H locs hP hS => ?_)
    refine lv_icmp_ne (tgt := 129) hx hb dL_areFactorsSo_122 (by decide) (fun c_3 => ?_) (fun c_3 => ?_)
    · have hf := (if_neg c_3).symm.trans hf
      refine lv_iconst (v := (0 : Int32)) hx hb dL_areFactorsSo_129 (by decide) ?_
      exact J130 Fn Fa (0 : Int32) hf _ _ hP hS _ (lv_sub hl [] rfl)
    · have hf := (if_pos c_3).symm.trans hf
      refine lv_iconst (v := (1 : Int32)) hx hb dL_areFactorsSo_125 (by decide) ?_
      refine lv_goto (tgt := 130) hx hb dL_areFactorsSo_126 (by decide) ?_
      exact J130 Fn Fa (1 : Int32) hf _ _ hP hS _ (lv_sub hl [] rfl)
  have J102 : ∀ (Fn : Int32) (Fa : (Nat → Int32)), fL_areFactorsSo_J102 N Tn Ta Fn Fa = some (r0, Fn9, Fa9) → ∀ (H : Heap) (locs : List Loc), va_P D vwCl (w_0_1_2_3_4 q cI cJ cD Tn Ta Fn Fa) H → va_S (gA q [0, 1, 2, 3, 4]) s.heap H locs → ∀ ls : Array Slot, lv_has ls 5 [] → W p l e (headSpec wsL_areFactorsSo rL_areFactorsSo).room s m ([.ref (q 0)] : List Value).toArray below meth c H locs 0 0 (MQ below (gQ D (some (.int r0)) (w_0_1_2_3_4 q cI cJ cD Tn Ta Fn9 Fa9) (gA q [0, 1, 2, 3, 4])) ([.ref (q 0)] : List Value).toArray s 0 0 (gA q [0, 1, 2, 3, 4])) (F0 m 102 ls []) := by
    intro Fn Fa hf H locs hP hS ls hl
    unfold fL_areFactorsSo_J102 at hf
    refine lv_iconst (v := (0 : Int32)) hx hb dL_areFactorsSo_102 (by decide) ?_
    obtain ⟨g_4, hf⟩ := gd_some hf
    cases hf
    exact W.zret (ty := .boolean) hx hb hr (isB_nar g_4) (fun t ht hW => ⟨⟨rfl, by rw [ht]; exact hP⟩, hS.F ht⟩) hS.2.2 dL_areFactorsSo_103
  have K6 : ∀ (n6 : Nat) (Fn : Int32) (Fa : (Nat → Int32)) (x1 : Int32) (x2 : Int32) (x3 : Int32), fL_areFactorsSo_H6 N Tn Ta n6 Fn Fa x1 x2 x3 = some (r0, Fn9, Fa9) → ∀ (H : Heap) (locs : List Loc), va_P D vwCl (w_0_1_2_3_4 q cI cJ cD Tn Ta Fn Fa) H → va_S (gA q [0, 1, 2, 3, 4]) s.heap H locs → ∀ ls : Array Slot, lv_has ls 5 [(0, .ref (q 0)), (1, .int x1), (2, .int x2), (3, .int x3)] → W p l e (headSpec wsL_areFactorsSo rL_areFactorsSo).room s m ([.ref (q 0)] : List Value).toArray below meth c H locs 0 0 (MQ below (gQ D (some (.int r0)) (w_0_1_2_3_4 q cI cJ cD Tn Ta Fn9 Fa9) (gA q [0, 1, 2, 3, 4])) ([.ref (q 0)] : List Value).toArray s 0 0 (gA q [0, 1, 2, 3, 4])) (F0 m 6 ls []) := by
    intro n6
    induction n6 with
    | zero =>
      intro Fn Fa x1 x2 x3 hf
      exact nomatch (show (none : Option (Int32 × Int32 × (Nat → Int32))) = some (r0, Fn9, Fa9) from hf)
    | succ n6 ih6 =>
      have J104 : ∀ (Fn : Int32) (Fa : (Nat → Int32)) (x1 : Int32) (x3 : Int32) (x4 : Int32), fL_areFactorsSo_J104 N Tn Ta (fL_areFactorsSo_H6 N Tn Ta n6) Fn Fa x1 x3 x4 = some (r0, Fn9, Fa9) → ∀ (H : Heap) (locs : List Loc), va_P D vwCl (w_0_1_2_3_4 q cI cJ cD Tn Ta Fn Fa) H → va_S (gA q [0, 1, 2, 3, 4]) s.heap H locs → ∀ ls : Array Slot, lv_has ls 5 [(0, .ref (q 0)), (1, .int x1), (3, .int x3), (4, .int x4)] → W p l e (headSpec wsL_areFactorsSo rL_areFactorsSo).room s m ([.ref (q 0)] : List Value).toArray below meth c H locs 0 0 (MQ below (gQ D (some (.int r0)) (w_0_1_2_3_4 q cI cJ cD Tn Ta Fn9 Fa9) (gA q [0, 1, 2, 3, 4])) ([.ref (q 0)] : List Value).toArray s 0 0 (gA q [0, 1, 2, 3, 4])) (F0 m 104 ls []) := by
        intro Fn Fa x1 x3 x4 hf H locs hP hS ls hl
        unfold fL_areFactorsSo_J104 at hf
        refine lv_iload_n hx hb dL_areFactorsSo_104 rfl (lv_at hl 1 rfl) ?_
        refine lv_istore_n (lv' := [(2, .int x1), (0, .ref (q 0)), (1, .int x1), (3, .int x3), (4, .int x4)]) hx hb dL_areFactorsSo_105 rfl hl (by decide) rfl (fun ls hl => ?_)
        refine lv_iload_n hx hb dL_areFactorsSo_106 rfl (lv_at hl 2 rfl) ?_
        refine lv_iload hx hb dL_areFactorsSo_107 (lv_at hl 4 rfl) ?_
        refine lv_iadd hx hb dL_areFactorsSo_109 ?_
        refine lv_istore_n (lv' := [(1, .int (x1 + x4)), (2, .int x1), (0, .ref (q 0)), (3, .int x3), (4, .int x4)]) hx hb dL_areFactorsSo_110 rfl hl (by decide) rfl (fun ls hl => ?_)
        refine lv_iinc (v := (x3 + 1)) (lv' := [(3, .int (x3 + 1)), (1, .int (x1 + x4)), (2, .int x1), (0, .ref (q 0)), (4, .int x4)]) hx hb dL_areFactorsSo_111 hl (k := 3) rfl rfl (by decide) rfl (fun ls hl => ?_)
        refine lv_goto (tgt := 6) hx hb dL_areFactorsSo_114 (by decide) ?_
        exact ih6 Fn Fa (x1 + x4) x1 (x3 + 1) hf _ _ hP hS _ (lv_sub hl [3, 1, 2, 0] rfl)
      intro Fn Fa x1 x2 x3 hf H locs hP hS ls hl
      have hf : fL_areFactorsSo_B6 N Tn Ta (fL_areFactorsSo_H6 N Tn Ta n6) Fn Fa x1 x2 x3 = some (r0, Fn9, Fa9) := hf
      unfold fL_areFactorsSo_B6 at hf
      refine lv_iload_n hx hb dL_areFactorsSo_6 rfl (lv_at hl 3 rfl) ?_
      refine lv_aload_n hx hb dL_areFactorsSo_7 rfl (lv_at hl 0 rfl) ?_
      obtain ⟨⟨r8, Fn8, Fa8⟩, hc, hf⟩ := bn_some hf
      try dsimp only at hf
      refine g_call0 (ws' := (w_0_1_2_3_4 q cI cJ cD Tn Ta Fn8 Fa8)) (st1 := [.int r8, .int x3]) hq [0, 1, 2, 3, 4] [0, 1, 2, 3, 4] [.inl 0, .inl 1, .inl 2, .inl 3, .inl 4] (va_runV (As := []) (rest := [.int x3]) ⟨hx, hb, hml, hown, hts⟩ (kX8_factors l D cI cJ cD q hq N Tn Ta Fn Fa r8 Fn8 Fa8 hc) (cwV 0 hts gL_areFactorsSo_X8_factors rfl rfl rfl (by decide +kernel) ⟨(Nat.le_of_ble_eq_true rfl), (Nat.le_of_ble_eq_true rfl)⟩) ⟨gP_blind, va_recv hE.1 hP (ci := 6) (q0 := 0) rfl rfl, fun U hU hW => ⟨rfl, by rw [hU]; exact hP.sub (ws' := (w_0_1_2_3_4 q cI cJ cD Tn Ta Fn Fa)) [0, 1, 2, 3, 4] rfl, gEv.warm hW hE⟩⟩ rfl rfl hl.1 rfl (lv_room (Nat.le_of_ble_eq_true rfl)) dL_areFactorsSo_8 ⟨Nat.zero_le _, Nat.zero_le _⟩) hP hS (gSub rfl) rfl rfl rfl rfl rfl (fun H locs hP hS => ?_)
      refine lv_icmp_ge (tgt := 117) hx hb dL_areFactorsSo_11 (by decide) (fun c_5 => ?_) (fun c_5 => ?_)
      · have hf := (if_pos c_5).symm.trans hf
        exact J117 Fn8 Fa8 x1 hf _ _ hP hS _ (lv_sub hl [0, 1] rfl)
      · have hf := (if_neg c_5).symm.trans hf
        refine lv_aload_n hx hb dL_areFactorsSo_14 rfl (lv_at hl 0 rfl) ?_
        refine lv_iload_n hx hb dL_areFactorsSo_15 rfl (lv_at hl 3 rfl) ?_
        rcases bx_some hf with ⟨⟨e16, Fn16, Fa16⟩, hc, hf⟩ | ⟨⟨r16, Fn16, Fa16⟩, hc, hf⟩
        · exact nomatch hf
        try dsimp only at hf
        refine g_call0 (ws' := (w_0_1_2_3_4 q cI cJ cD Tn Ta Fn16 Fa16)) (st1 := [.int r16]) hq [0, 1, 2, 3, 4] [0, 1, 2, 3, 4] [.inl 0, .inl 1, .inl 2, .inl 3, .inl 4] (va_runV (As := [.int x3]) (rest := []) ⟨hx, hb, hml, hown, hts⟩ (kX8_factorLength l D cI cJ cD q hq N Tn Ta Fn8 Fa8 x3 r16 Fn16 Fa16 hc) (cwV 1 hts gL_areFactorsSo_X8_factorLength rfl rfl rfl (by decide +kernel) ⟨(Nat.le_of_ble_eq_true rfl), (Nat.le_of_ble_eq_true rfl)⟩) ⟨gP_blind, va_recv hE.1 hP (ci := 6) (q0 := 0) rfl rfl, fun U hU hW => ⟨rfl, by rw [hU]; exact hP.sub (ws' := (w_0_1_2_3_4 q cI cJ cD Tn Ta Fn8 Fa8)) [0, 1, 2, 3, 4] rfl, gEv.warm hW hE⟩⟩ rfl rfl hl.1 rfl (lv_room (Nat.le_of_ble_eq_true rfl)) dL_areFactorsSo_16 ⟨Nat.zero_le _, Nat.zero_le _⟩) hP hS (gSub rfl) rfl rfl rfl rfl rfl (fun H locs hP hS => ?_)
        refine lv_istore (lv' := [(4, .int r16), (0, .ref (q 0)), (1, .int x1), (2, .int x2), (3, .int x3)]) hx hb dL_areFactorsSo_19 hl (by decide) rfl (fun ls hl => ?_)
        refine lv_aload_n hx hb dL_areFactorsSo_21 rfl (lv_at hl 1 rfl) ?_
        refine lv_iload_n hx hb dL_areFactorsSo_22 rfl (lv_at hl 4 rfl) ?_
        rcases bx_some hf with ⟨⟨e23, Fn23, Fa23⟩, hc, hf⟩ | ⟨⟨r23, Fn23, Fa23⟩, hc, hf⟩
        · exact nomatch hf
        try dsimp only at hf
        refine g_call0 (ws' := (w_0_1_2_3_4 q cI cJ cD Tn Ta Fn23 Fa23)) (st1 := [.int r23]) hq [0, 1, 2, 3, 4] [0, 1, 2, 3, 4] [.inl 0, .inl 1, .inl 2, .inl 3, .inl 4] (va_runV (As := [.int x3]) (rest := []) ⟨hx, hb, hml, hown, hts⟩ (kX8_factorStart l D cI cJ cD q hq N Tn Ta Fn16 Fa16 x3 r23 Fn23 Fa23 hc) (cwV 1 hts gL_areFactorsSo_X8_factorStart rfl rfl rfl (by decide +kernel) ⟨(Nat.le_of_ble_eq_true rfl), (Nat.le_of_ble_eq_true rfl)⟩) ⟨gP_blind, va_recv hE.1 hP (ci := 6) (q0 := 0) rfl rfl, fun U hU hW => ⟨rfl, by rw [hU]; exact hP.sub (ws' := (w_0_1_2_3_4 q cI cJ cD Tn Ta Fn16 Fa16)) [0, 1, 2, 3, 4] rfl, gEv.warm hW hE⟩⟩ rfl rfl hl.1 rfl (lv_room (Nat.le_of_ble_eq_true rfl)) dL_areFactorsSo_23 ⟨Nat.zero_le _, Nat.zero_le _⟩) hP hS (gSub rfl) rfl rfl rfl rfl rfl (fun H locs hP hS => ?_)
        refine lv_iload_n hx hb dL_areFactorsSo_26 rfl (lv_at hl 2 rfl) ?_
        refine lv_icmp_ne (tgt := 82) hx hb dL_areFactorsSo_27 (by decide) (fun c_6 => ?_) (fun c_6 => ?_)
        · have hf := (if_neg c_6).symm.trans hf
          exact J82 Fn23 Fa23 hf _ _ hP hS _ (lv_sub hl [] rfl)
        · have hf := (if_pos c_6).symm.trans hf
          refine lv_iload hx hb dL_areFactorsSo_30 (lv_at hl 0 rfl) ?_
          refine lv_iconst (v := (1 : Int32)) hx hb dL_areFactorsSo_32 (by decide) ?_
          refine lv_icmp_lt (tgt := 82) hx hb dL_areFactorsSo_33 (by decide) (fun c_7 => ?_) (fun c_7 => ?_)
          · have hf := (if_pos c_7).symm.trans hf
            exact J82 Fn23 Fa23 hf _ _ hP hS _ (lv_sub hl [] rfl)
          · have hf := (if_neg c_7).symm.trans hf
            refine lv_aload_n hx hb dL_areFactorsSo_36 rfl (lv_at hl 1 rfl) ?_
            refine lv_iload_n hx hb dL_areFactorsSo_37 rfl (lv_at hl 2 rfl) ?_
            refine lv_iload_n hx hb dL_areFactorsSo_38 rfl (lv_at hl 2 rfl) ?_
            refine lv_iload hx hb dL_areFactorsSo_39 (lv_at hl 0 rfl) ?_
            refine lv_iadd hx hb dL_areFactorsSo_41 ?_
            rcases bx_some hf with ⟨e42, hc, hf⟩ | ⟨r42, hc, hf⟩
            · exact nomatch hf
            try dsimp only at hf
            refine g_call0 (ws' := (w_0_1_2_3_4 q cI cJ cD Tn Ta Fn23 Fa23)) (st1 := [.int r42]) hq [0, 1, 2, 3, 4] [0, 1, 2] [.inl 0, .inl 1, .inl 2, .inr 3, .inr 4] (va_runV (As := [.int x1, .int (x1 + r16)]) (rest := []) ⟨hx, hb, hml, hown, hts⟩ (kX8_isLyndon l D cI cJ cD q hq N Tn Ta x1 (x1 + r16) r42 hc) (cwV 2 hts gL_areFactorsSo_X8_isLyndon rfl rfl rfl (by decide +kernel) ⟨(Nat.le_of_ble_eq_true rfl), (Nat.le_of_ble_eq_true rfl)⟩) ⟨gP_blind, va_recv hE.1 hP (ci := 6) (q0 := 0) rfl rfl, fun U hU hW => ⟨rfl, by rw [hU]; exact hP.sub (ws' := (w_0_1_2 q cI cJ cD Tn Ta)) [0, 1, 2] rfl, gEv.warm hW hE⟩⟩ rfl rfl hl.1 rfl (lv_room (Nat.le_of_ble_eq_true rfl)) dL_areFactorsSo_42 ⟨Nat.zero_le _, Nat.zero_le _⟩) hP hS (gSub rfl) rfl rfl rfl rfl rfl (fun H locs hP hS => ?_)
            refine lv_if_eq (tgt := 82) hx hb dL_areFactorsSo_45 (by decide) (fun c_8 => ?_) (fun c_8 => ?_)
            · have hf := (if_pos c_8).symm.trans hf
              exact J82 Fn23 Fa23 hf _ _ hP hS _ (lv_sub hl [] rfl)
            · have hf := (if_neg c_8).symm.trans hf
              refine lv_aload_n hx hb dL_areFactorsSo_48 rfl (lv_at hl 1 rfl) ?_
              refine lv_iload_n hx hb dL_areFactorsSo_49 rfl (lv_at hl 2 rfl) ?_
              refine lv_iconst (v := (0 : Int32)) hx hb dL_areFactorsSo_50 (by decide) ?_
              rcases bx_some hf with ⟨e51, hc, hf⟩ | ⟨r51, hc, hf⟩
              · exact nomatch hf
              try dsimp only at hf
              refine g_call0 (ws' := (w_0_1_2_3_4 q cI cJ cD Tn Ta Fn23 Fa23)) (st1 := [.int r51]) hq [0, 1, 2, 3, 4] [0, 1, 2] [.inl 0, .inl 1, .inl 2, .inr 3, .inr 4] (va_runV (As := [.int x1, .int (0 : Int32)]) (rest := []) ⟨hx, hb, hml, hown, hts⟩ (kX8_longestLyndon l D cI cJ cD q hq N Tn Ta x1 (0 : Int32) r51 hc) (cwV 2 hts gL_areFactorsSo_X8_longestLyndon rfl rfl rfl (by decide +kernel) ⟨(Nat.le_of_ble_eq_true rfl), (Nat.le_of_ble_eq_true rfl)⟩) ⟨gP_blind, va_recv hE.1 hP (ci := 6) (q0 := 0) rfl rfl, fun U hU hW => ⟨rfl, by rw [hU]; exact hP.sub (ws' := (w_0_1_2 q cI cJ cD Tn Ta)) [0, 1, 2] rfl, gEv.warm hW hE⟩⟩ rfl rfl hl.1 rfl (lv_room (Nat.le_of_ble_eq_true rfl)) dL_areFactorsSo_51 ⟨Nat.zero_le _, Nat.zero_le _⟩) hP hS (gSub rfl) rfl rfl rfl rfl rfl (fun H locs hP hS => ?_)
              refine lv_iload hx hb dL_areFactorsSo_54 (lv_at hl 0 rfl) ?_
              refine lv_icmp_ne (tgt := 82) hx hb dL_areFactorsSo_56 (by decide) (fun c_9 => ?_) (fun c_9 => ?_)
              · have hf := (if_neg c_9).symm.trans hf
                exact J82 Fn23 Fa23 hf _ _ hP hS _ (lv_sub hl [] rfl)
              · have hf := (if_pos c_9).symm.trans hf
                refine lv_aload_n hx hb dL_areFactorsSo_59 rfl (lv_at hl 1 rfl) ?_
                refine lv_iload_n hx hb dL_areFactorsSo_60 rfl (lv_at hl 2 rfl) ?_
                rcases bx_some hf with ⟨⟨e61, Fn61, Fa61⟩, hc, hf⟩ | ⟨⟨r61, Fn61, Fa61⟩, hc, hf⟩
                · exact nomatch hf
                try dsimp only at hf
                refine g_call0 (ws' := (w_0_1_2_3_4 q cI cJ cD Tn Ta Fn61 Fa61)) (st1 := [.int r61]) hq [0, 1, 2, 3, 4] [0, 1, 2, 3, 4] [.inl 0, .inl 1, .inl 2, .inl 3, .inl 4] (va_runV (As := [.int x1]) (rest := []) ⟨hx, hb, hml, hown, hts⟩ (kX8_factorOver l D cI cJ cD q hq N Tn Ta Fn23 Fa23 x1 r61 Fn61 Fa61 hc) (cwV 1 hts gL_areFactorsSo_X8_factorOver rfl rfl rfl (by decide +kernel) ⟨(Nat.le_of_ble_eq_true rfl), (Nat.le_of_ble_eq_true rfl)⟩) ⟨gP_blind, va_recv hE.1 hP (ci := 6) (q0 := 0) rfl rfl, fun U hU hW => ⟨rfl, by rw [hU]; exact hP.sub (ws' := (w_0_1_2_3_4 q cI cJ cD Tn Ta Fn23 Fa23)) [0, 1, 2, 3, 4] rfl, gEv.warm hW hE⟩⟩ rfl rfl hl.1 rfl (lv_room (Nat.le_of_ble_eq_true rfl)) dL_areFactorsSo_61 ⟨Nat.zero_le _, Nat.zero_le _⟩) hP hS (gSub rfl) rfl rfl rfl rfl rfl (fun H locs hP hS => ?_)
                refine lv_iload_n hx hb dL_areFactorsSo_64 rfl (lv_at hl 4 rfl) ?_
                refine lv_icmp_ne (tgt := 82) hx hb dL_areFactorsSo_65 (by decide) (fun c_10 => ?_) (fun c_10 => ?_)
                · have hf := (if_neg c_10).symm.trans hf
                  exact J82 Fn61 Fa61 hf _ _ hP hS _ (lv_sub hl [] rfl)
                · have hf := (if_pos c_10).symm.trans hf
                  refine lv_aload_n hx hb dL_areFactorsSo_68 rfl (lv_at hl 1 rfl) ?_
                  refine lv_iload_n hx hb dL_areFactorsSo_69 rfl (lv_at hl 2 rfl) ?_
                  refine lv_iload hx hb dL_areFactorsSo_70 (lv_at hl 0 rfl) ?_
                  refine lv_iadd hx hb dL_areFactorsSo_72 ?_
                  refine lv_iconst (v := (1 : Int32)) hx hb dL_areFactorsSo_73 (by decide) ?_
                  refine lv_isub hx hb dL_areFactorsSo_74 ?_
                  rcases bx_some hf with ⟨⟨e75, Fn75, Fa75⟩, hc, hf⟩ | ⟨⟨r75, Fn75, Fa75⟩, hc, hf⟩
                  · exact nomatch hf
                  try dsimp only at hf
                  refine g_call0 (ws' := (w_0_1_2_3_4 q cI cJ cD Tn Ta Fn75 Fa75)) (st1 := [.int r75]) hq [0, 1, 2, 3, 4] [0, 1, 2, 3, 4] [.inl 0, .inl 1, .inl 2, .inl 3, .inl 4] (va_runV (As := [.int ((x1 + r16) - (1 : Int32))]) (rest := []) ⟨hx, hb, hml, hown, hts⟩ (kX8_factorOver l D cI cJ cD q hq N Tn Ta Fn61 Fa61 ((x1 + r16) - (1 : Int32)) r75 Fn75 Fa75 hc) (cwV 1 hts gL_areFactorsSo_X8_factorOver rfl rfl rfl (by decide +kernel) ⟨(Nat.le_of_ble_eq_true rfl), (Nat.le_of_ble_eq_true rfl)⟩) ⟨gP_blind, va_recv hE.1 hP (ci := 6) (q0 := 0) rfl rfl, fun U hU hW => ⟨rfl, by rw [hU]; exact hP.sub (ws' := (w_0_1_2_3_4 q cI cJ cD Tn Ta Fn61 Fa61)) [0, 1, 2, 3, 4] rfl, gEv.warm hW hE⟩⟩ rfl rfl hl.1 rfl (lv_room (Nat.le_of_ble_eq_true rfl)) dL_areFactorsSo_75 ⟨Nat.zero_le _, Nat.zero_le _⟩) hP hS (gSub rfl) rfl rfl rfl rfl rfl (fun H locs hP hS => ?_)
                  refine lv_iload_n hx hb dL_areFactorsSo_78 rfl (lv_at hl 4 rfl) ?_
                  refine lv_icmp_eq (tgt := 84) hx hb dL_areFactorsSo_79 (by decide) (fun c_11 => ?_) (fun c_11 => ?_)
                  · have hf := (if_pos c_11).symm.trans hf
                    refine lv_iload_n hx hb dL_areFactorsSo_84 rfl (lv_at hl 4 rfl) ?_
                    refine lv_if_le (tgt := 104) hx hb dL_areFactorsSo_85 (by decide) (fun c_12 => ?_) (fun c_12 => ?_)
                    · have hf := (if_pos c_12).symm.trans hf
                      exact J104 Fn75 Fa75 x1 x3 r16 hf _ _ hP hS _ (lv_sub hl [1, 2, 4, 0] rfl)
                    · have hf := (if_neg c_12).symm.trans hf
                      refine lv_aload_n hx hb dL_areFactorsSo_88 rfl (lv_at hl 1 rfl) ?_
                      refine lv_iload_n hx hb dL_areFactorsSo_89 rfl (lv_at hl 3 rfl) ?_
                      refine lv_iload_n hx hb dL_areFactorsSo_90 rfl (lv_at hl 2 rfl) ?_
                      refine lv_iload_n hx hb dL_areFactorsSo_91 rfl (lv_at hl 2 rfl) ?_
                      refine lv_iload_n hx hb dL_areFactorsSo_92 rfl (lv_at hl 2 rfl) ?_
                      refine lv_iload hx hb dL_areFactorsSo_93 (lv_at hl 0 rfl) ?_
                      refine lv_iadd hx hb dL_areFactorsSo_95 ?_
                      rcases bx_some hf with ⟨e96, hc, hf⟩ | ⟨r96, hc, hf⟩
                      · exact nomatch hf
                      try dsimp only at hf
                      refine g_call0 (ws' := (w_0_1_2_3_4 q cI cJ cD Tn Ta Fn75 Fa75)) (st1 := [.int r96]) hq [0, 1, 2, 3, 4] [0, 1, 2] [.inl 0, .inl 1, .inl 2, .inr 3, .inr 4] (va_runV (As := [.int x2, .int x1, .int x1, .int (x1 + r16)]) (rest := []) ⟨hx, hb, hml, hown, hts⟩ (kX8_compare l D cI cJ cD q hq N Tn Ta x2 x1 x1 (x1 + r16) r96 hc) (cwV 4 hts gL_areFactorsSo_X8_compare rfl rfl rfl (by decide +kernel) ⟨(Nat.le_of_ble_eq_true rfl), (Nat.le_of_ble_eq_true rfl)⟩) ⟨gP_blind, va_recv hE.1 hP (ci := 6) (q0 := 0) rfl rfl, fun U hU hW => ⟨rfl, by rw [hU]; exact hP.sub (ws' := (w_0_1_2 q cI cJ cD Tn Ta)) [0, 1, 2] rfl, gEv.warm hW hE⟩⟩ rfl rfl hl.1 rfl (lv_room (Nat.le_of_ble_eq_true rfl)) dL_areFactorsSo_96 ⟨Nat.zero_le _, Nat.zero_le _⟩) hP hS (gSub rfl) rfl rfl rfl rfl rfl (fun H locs hP hS => ?_)
                      refine lv_if_ge (tgt := 104) hx hb dL_areFactorsSo_99 (by decide) (fun c_13 => ?_) (fun c_13 => ?_)
                      · have hf := (if_pos c_13).symm.trans hf
                        exact J104 Fn75 Fa75 x1 x3 r16 hf _ _ hP hS _ (lv_sub hl [1, 2, 4, 0] rfl)
                      · have hf := (if_neg c_13).symm.trans hf
                        exact J102 Fn75 Fa75 hf _ _ hP hS _ (lv_sub hl [] rfl)
                  · have hf := (if_neg c_11).symm.trans hf
                    exact J82 Fn75 Fa75 hf _ _ hP hS _ (lv_sub hl [] rfl)
  unfold fL_areFactorsSo at hf
  refine lv_iconst (v := (0 : Int32)) hx hb dL_areFactorsSo_0 (by decide) ?_
  refine lv_istore_n (lv' := [(1, .int (0 : Int32)), (0, .ref (q 0))]) hx hb dL_areFactorsSo_1 rfl hl (by decide) rfl (fun ls hl => ?_)
  refine lv_iconst (v := (0 : Int32)) hx hb dL_areFactorsSo_2 (by decide) ?_
  refine lv_istore_n (lv' := [(2, .int (0 : Int32)), (1, .int (0 : Int32)), (0, .ref (q 0))]) hx hb dL_areFactorsSo_3 rfl hl (by decide) rfl (fun ls hl => ?_)
  refine lv_iconst (v := (0 : Int32)) hx hb dL_areFactorsSo_4 (by decide) ?_
  refine lv_istore_n (lv' := [(3, .int (0 : Int32)), (2, .int (0 : Int32)), (1, .int (0 : Int32)), (0, .ref (q 0))]) hx hb dL_areFactorsSo_5 rfl hl (by decide) rfl (fun ls hl => ?_)
  exact K6 N Fn Fa (0 : Int32) (0 : Int32) (0 : Int32) hf _ _ hP hS _ (lv_sub hl [3, 2, 1, 0] rfl)
set_option maxHeartbeats 4000000 in
set_option maxRecDepth 100000 in
theorem kL_isPartSo (l : Launch) (D : va_G) (cI cJ cD : ClassId) (q : Nat → Nat) (hq : gInj 14 q) (N : Nat) (Tn : Int32) (Ta : (Nat → Int32)) (Ba : (Nat → Int32)) (p1 : Int32) (p2 : Int32) (r0 : Int32) (Ba9 : (Nat → Int32)) (hf : fL_isPartSo N Tn Ta Ba p1 p2 = some (r0, Ba9)) : Met l yL_isPartSo wsL_isPartSo rL_isPartSo (gP D cI cJ cD [.ref (q 0), .int p1, .int p2] (w_0_1_2_5_6 q cI cJ cD Tn Ta Ba)) (gQ D (some (.int r0)) (w_0_1_2_5_6 q cI cJ cD Tn Ta Ba9) (gA q [0, 1, 2, 5, 6])) 0 0 (gA q [0, 1, 2, 5, 6]) := by
  refine Met.ofW (cc := cL_isPartSo) (maxL := 10) (ret := (some .boolean)) (by decide +kernel) rfl ?_
  intro p e s m args below meth c s₁ B hml hv
  obtain ⟨rfl, hP, hE⟩ := hv
  have hx := B.exec
  have hb := B.bytes
  have hr := B.returns
  have hts := atoms_spec (ws := wsL_isPartSo) B.pre
  have hown : s.vm.findClass RL = some m.cls := findClass_of_methodNamed B.named
  have hlocks := B.notSynchronized
  have hS : va_S (gA q [0, 1, 2, 5, 6]) s.heap s.heap [] := va_S.rf
  have hl := lv_entry ([.ref (q 0), .int p1, .int p2]) (n := 10) (Nat.le_of_ble_eq_true rfl)
  rw [lg_entry_eq]
  generalize (lg_sl ([.ref (q 0), .int p1, .int p2]) ++ List.replicate (10 - (lg_sl ([.ref (q 0), .int p1, .int p2])).length) Slot.unset).toArray = ls at hl ⊢
  have hl : lv_has ls 10 [(0, .ref (q 0)), (1, .int p1), (2, .int p2)] := hl
  have J337 : ∀ (Ba : (Nat → Int32)) (x8 : Int32), fL_isPartSo_J337 N Tn Ta Ba x8 = some (r0, Ba9) → ∀ (H : Heap) (locs : List Loc), va_P D vwCl (w_0_1_2_5_6 q cI cJ cD Tn Ta Ba) H → va_S (gA q [0, 1, 2, 5, 6]) s.heap H locs → ∀ ls : Array Slot, lv_has ls 10 [(8, .int x8)] → W p l e (headSpec wsL_isPartSo rL_isPartSo).room s m ([.ref (q 0), .int p1, .int p2] : List Value).toArray below meth c H locs 0 0 (MQ below (gQ D (some (.int r0)) (w_0_1_2_5_6 q cI cJ cD Tn Ta Ba9) (gA q [0, 1, 2, 5, 6])) ([.ref (q 0), .int p1, .int p2] : List Value).toArray s 0 0 (gA q [0, 1, 2, 5, 6])) (F0 m 337 ls []) := by
    intro Ba x8 hf H locs hP hS ls hl
    unfold fL_isPartSo_J337 at hf
    refine lv_iload hx hb dL_isPartSo_337 (lv_at hl 0 rfl) ?_
    obtain ⟨g_1, hf⟩ := gd_some hf
    cases hf
    exact W.zret (ty := .boolean) hx hb hr (isB_nar g_1) (fun t ht hW => ⟨⟨rfl, by rw [ht]; exact hP⟩, hS.F ht⟩) hS.2.2 dL_isPartSo_339
  have J335 : ∀ (Ba : (Nat → Int32)) (y0 : Int32), fL_isPartSo_J335 N Tn Ta Ba y0 = some (r0, Ba9) → ∀ (H : Heap) (locs : List Loc), va_P D vwCl (w_0_1_2_5_6 q cI cJ cD Tn Ta Ba) H → va_S (gA q [0, 1, 2, 5, 6]) s.heap H locs → ∀ ls : Array Slot, lv_has ls 10 [] → W p l e (headSpec wsL_isPartSo rL_isPartSo).room s m ([.ref (q 0), .int p1, .int p2] : List Value).toArray below meth c H locs 0 0 (MQ below (gQ D (some (.int r0)) (w_0_1_2_5_6 q cI cJ cD Tn Ta Ba9) (gA q [0, 1, 2, 5, 6])) ([.ref (q 0), .int p1, .int p2] : List Value).toArray s 0 0 (gA q [0, 1, 2, 5, 6])) (F0 m 335 ls [.int y0]) := by
    intro Ba y0 hf H locs hP hS ls hl
    unfold fL_isPartSo_J335 at hf
    refine lv_istore (lv' := [(8, .int y0)]) hx hb dL_isPartSo_335 hl (by decide) rfl (fun ls hl => ?_)
    exact J337 Ba y0 hf _ _ hP hS _ (lv_sub hl [0] rfl)
  have J334 : ∀ (Ba : (Nat → Int32)), fL_isPartSo_J334 N Tn Ta Ba = some (r0, Ba9) → ∀ (H : Heap) (locs : List Loc), va_P D vwCl (w_0_1_2_5_6 q cI cJ cD Tn Ta Ba) H → va_S (gA q [0, 1, 2, 5, 6]) s.heap H locs → ∀ ls : Array Slot, lv_has ls 10 [] → W p l e (headSpec wsL_isPartSo rL_isPartSo).room s m ([.ref (q 0), .int p1, .int p2] : List Value).toArray below meth c H locs 0 0 (MQ below (gQ D (some (.int r0)) (w_0_1_2_5_6 q cI cJ cD Tn Ta Ba9) (gA q [0, 1, 2, 5, 6])) ([.ref (q 0), .int p1, .int p2] : List Value).toArray s 0 0 (gA q [0, 1, 2, 5, 6])) (F0 m 334 ls []) := by
    intro Ba hf H locs hP hS ls hl
    unfold fL_isPartSo_J334 at hf
    refine lv_iconst (v := (0 : Int32)) hx hb dL_isPartSo_334 (by decide) ?_
    exact J335 Ba (0 : Int32) hf _ _ hP hS _ (lv_sub hl [] rfl)
  have J259 : ∀ (Ba : (Nat → Int32)) (x1 : Int32) (x2 : Int32) (x3 : Int32) (y0 : Int32), fL_isPartSo_J259 N Tn Ta Ba x1 x2 x3 y0 = some (r0, Ba9) → ∀ (H : Heap) (locs : List Loc), va_P D vwCl (w_0_1_2_5_6 q cI cJ cD Tn Ta Ba) H → va_S (gA q [0, 1, 2, 5, 6]) s.heap H locs → ∀ ls : Array Slot, lv_has ls 10 [(0, .ref (q 0)), (1, .int x1), (2, .int x2), (3, .int x3)] → W p l e (headSpec wsL_isPartSo rL_isPartSo).room s m ([.ref (q 0), .int p1, .int p2] : List Value).toArray below meth c H locs 0 0 (MQ below (gQ D (some (.int r0)) (w_0_1_2_5_6 q cI cJ cD Tn Ta Ba9) (gA q [0, 1, 2, 5, 6])) ([.ref (q 0), .int p1, .int p2] : List Value).toArray s 0 0 (gA q [0, 1, 2, 5, 6])) (F0 m 259 ls [.int y0]) := by
    intro Ba x1 x2 x3 y0 hf H locs hP hS ls hl
    unfold fL_isPartSo_J259 at hf
    refine lv_istore (lv' := [(8, .int y0), (0, .ref (q 0)), (1, .int x1), (2, .int x2), (3, .int x3)]) hx hb dL_isPartSo_259 hl (by decide) rfl (fun ls hl => ?_)
    refine lv_iload hx hb dL_isPartSo_261 (lv_at hl 0 rfl) ?_
    refine lv_if_eq (tgt := 337) hx hb dL_isPartSo_263 (by decide) (fun c_2 => ?_) (fun c_2 => ?_)
    · have hf := (if_pos c_2).symm.trans hf
      exact J337 Ba y0 hf _ _ hP hS _ (lv_sub hl [0] rfl)
    · have hf := (if_neg c_2).symm.trans hf
      refine lv_aload_n hx hb dL_isPartSo_266 rfl (lv_at hl 1 rfl) ?_
      refine lv_iload_n hx hb dL_isPartSo_267 rfl (lv_at hl 2 rfl) ?_
      refine lv_iload_n hx hb dL_isPartSo_268 rfl (lv_at hl 3 rfl) ?_
      rcases bx_some hf with ⟨e269, hc, hf⟩ | ⟨r269, hc, hf⟩
      · exact nomatch hf
      try dsimp only at hf
      refine g_call0 (ws' := (w_0_1_2_5_6 q cI cJ cD Tn Ta Ba)) (st1 := [.int r269]) hq [0, 1, 2, 5, 6] [0, 1, 2] [.inl 0, .inl 1, .inl 2, .inr 3, .inr 4] (va_runV (As := [.int x1, .int x2]) (rest := []) ⟨hx, hb, hml, hown, hts⟩ (kX8_isLyndon l D cI cJ cD q hq N Tn Ta x1 x2 r269 hc) (cwV 2 hts gL_isPartSo_X8_isLyndon rfl rfl rfl (by decide +kernel) ⟨(Nat.le_of_ble_eq_true rfl), (Nat.le_of_ble_eq_true rfl)⟩) ⟨gP_blind, va_recv hE.1 hP (ci := 6) (q0 := 0) rfl rfl, fun U hU hW => ⟨rfl, by rw [hU]; exact hP.sub (ws' := (w_0_1_2 q cI cJ cD Tn Ta)) [0, 1, 2] rfl, gEv.warm hW hE⟩⟩ rfl rfl hl.1 rfl (lv_room (Nat.le_of_ble_eq_true rfl)) dL_isPartSo_269 ⟨Nat.zero_le _, Nat.zero_le _⟩) hP hS (gSub rfl) rfl rfl rfl rfl rfl (fun H locs hP hS => ?_)
      refine lv_if_eq (tgt := 337) hx hb dL_isPartSo_272 (by decide) (fun c_3 => ?_) (fun c_3 => ?_)
      · have hf := (if_pos c_3).symm.trans hf
        exact J337 Ba y0 hf _ _ hP hS _ (lv_sub hl [0] rfl)
      · have hf := (if_neg c_3).symm.trans hf
        refine lv_iload_n hx hb dL_isPartSo_275 rfl (lv_at hl 4 rfl) ?_
        refine lv_iconst (v := (1 : Int32)) hx hb dL_isPartSo_276 (by decide) ?_
        refine lv_icmp_le (tgt := 337) hx hb dL_isPartSo_277 (by decide) (fun c_4 => ?_) (fun c_4 => ?_)
        · have hf := (if_pos c_4).symm.trans hf
          exact J337 Ba y0 hf _ _ hP hS _ (lv_sub hl [0] rfl)
        · have hf := (if_neg c_4).symm.trans hf
          refine lv_aload_n hx hb dL_isPartSo_280 rfl (lv_at hl 1 rfl) ?_
          refine lv_iload_n hx hb dL_isPartSo_281 rfl (lv_at hl 2 rfl) ?_
          refine lv_iload_n hx hb dL_isPartSo_282 rfl (lv_at hl 3 rfl) ?_
          rcases bx_some hf with ⟨e283, hc, hf⟩ | ⟨r283, hc, hf⟩
          · exact nomatch hf
          try dsimp only at hf
          refine g_call0 (ws' := (w_0_1_2_5_6 q cI cJ cD Tn Ta Ba)) (st1 := [.int r283]) hq [0, 1, 2, 5, 6] [0, 1, 2] [.inl 0, .inl 1, .inl 2, .inr 3, .inr 4] (va_runV (As := [.int x1, .int x2]) (rest := []) ⟨hx, hb, hml, hown, hts⟩ (kX8_standardFactor l D cI cJ cD q hq N Tn Ta x1 x2 r283 hc) (cwV 2 hts gL_isPartSo_X8_standardFactor rfl rfl rfl (by decide +kernel) ⟨(Nat.le_of_ble_eq_true rfl), (Nat.le_of_ble_eq_true rfl)⟩) ⟨gP_blind, va_recv hE.1 hP (ci := 6) (q0 := 0) rfl rfl, fun U hU hW => ⟨rfl, by rw [hU]; exact hP.sub (ws' := (w_0_1_2 q cI cJ cD Tn Ta)) [0, 1, 2] rfl, gEv.warm hW hE⟩⟩ rfl rfl hl.1 rfl (lv_room (Nat.le_of_ble_eq_true rfl)) dL_isPartSo_283 ⟨Nat.zero_le _, Nat.zero_le _⟩) hP hS (gSub rfl) rfl rfl rfl rfl rfl (fun H locs hP hS => ?_)
          refine lv_istore (lv' := [(9, .int r283), (8, .int y0), (0, .ref (q 0)), (1, .int x1), (2, .int x2), (3, .int x3)]) hx hb dL_isPartSo_286 hl (by decide) rfl (fun ls hl => ?_)
          refine lv_aload_n hx hb dL_isPartSo_288 rfl (lv_at hl 2 rfl) ?_
          refine lv_iload_n hx hb dL_isPartSo_289 rfl (lv_at hl 3 rfl) ?_
          refine lv_iload hx hb dL_isPartSo_290 (lv_at hl 0 rfl) ?_
          rcases bx_some hf with ⟨e292, hc, hf⟩ | ⟨r292, hc, hf⟩
          · exact nomatch hf
          try dsimp only at hf
          refine g_call0 (ws' := (w_0_1_2_5_6 q cI cJ cD Tn Ta Ba)) (st1 := [.int r292]) hq [0, 1, 2, 5, 6] [0, 1, 2] [.inl 0, .inl 1, .inl 2, .inr 3, .inr 4] (va_runV (As := [.int x1, .int r283]) (rest := []) ⟨hx, hb, hml, hown, hts⟩ (kX8_isLyndon l D cI cJ cD q hq N Tn Ta x1 r283 r292 hc) (cwV 2 hts gL_isPartSo_X8_isLyndon rfl rfl rfl (by decide +kernel) ⟨(Nat.le_of_ble_eq_true rfl), (Nat.le_of_ble_eq_true rfl)⟩) ⟨gP_blind, va_recv hE.1 hP (ci := 6) (q0 := 0) rfl rfl, fun U hU hW => ⟨rfl, by rw [hU]; exact hP.sub (ws' := (w_0_1_2 q cI cJ cD Tn Ta)) [0, 1, 2] rfl, gEv.warm hW hE⟩⟩ rfl rfl hl.1 rfl (lv_room (Nat.le_of_ble_eq_true rfl)) dL_isPartSo_292 ⟨Nat.zero_le _, Nat.zero_le _⟩) hP hS (gSub rfl) rfl rfl rfl rfl rfl (fun H locs hP hS => ?_)
          refine lv_if_eq (tgt := 334) hx hb dL_isPartSo_295 (by decide) (fun c_5 => ?_) (fun c_5 => ?_)
          · have hf := (if_pos c_5).symm.trans hf
            exact J334 Ba hf _ _ hP hS _ (lv_sub hl [] rfl)
          · have hf := (if_neg c_5).symm.trans hf
            refine lv_aload_n hx hb dL_isPartSo_298 rfl (lv_at hl 2 rfl) ?_
            refine lv_iload hx hb dL_isPartSo_299 (lv_at hl 0 rfl) ?_
            refine lv_iload_n hx hb dL_isPartSo_301 rfl (lv_at hl 4 rfl) ?_
            rcases bx_some hf with ⟨e302, hc, hf⟩ | ⟨r302, hc, hf⟩
            · exact nomatch hf
            try dsimp only at hf
            refine g_call0 (ws' := (w_0_1_2_5_6 q cI cJ cD Tn Ta Ba)) (st1 := [.int r302]) hq [0, 1, 2, 5, 6] [0, 1, 2] [.inl 0, .inl 1, .inl 2, .inr 3, .inr 4] (va_runV (As := [.int r283, .int x2]) (rest := []) ⟨hx, hb, hml, hown, hts⟩ (kX8_isLyndon l D cI cJ cD q hq N Tn Ta r283 x2 r302 hc) (cwV 2 hts gL_isPartSo_X8_isLyndon rfl rfl rfl (by decide +kernel) ⟨(Nat.le_of_ble_eq_true rfl), (Nat.le_of_ble_eq_true rfl)⟩) ⟨gP_blind, va_recv hE.1 hP (ci := 6) (q0 := 0) rfl rfl, fun U hU hW => ⟨rfl, by rw [hU]; exact hP.sub (ws' := (w_0_1_2 q cI cJ cD Tn Ta)) [0, 1, 2] rfl, gEv.warm hW hE⟩⟩ rfl rfl hl.1 rfl (lv_room (Nat.le_of_ble_eq_true rfl)) dL_isPartSo_302 ⟨Nat.zero_le _, Nat.zero_le _⟩) hP hS (gSub rfl) rfl rfl rfl rfl rfl (fun H locs hP hS => ?_)
            refine lv_if_eq (tgt := 334) hx hb dL_isPartSo_305 (by decide) (fun c_6 => ?_) (fun c_6 => ?_)
            · have hf := (if_pos c_6).symm.trans hf
              exact J334 Ba hf _ _ hP hS _ (lv_sub hl [] rfl)
            · have hf := (if_neg c_6).symm.trans hf
              refine lv_aload_n hx hb dL_isPartSo_308 rfl (lv_at hl 2 rfl) ?_
              refine lv_iload_n hx hb dL_isPartSo_309 rfl (lv_at hl 3 rfl) ?_
              refine lv_iload hx hb dL_isPartSo_310 (lv_at hl 0 rfl) ?_
              refine lv_iload hx hb dL_isPartSo_312 (lv_at hl 0 rfl) ?_
              refine lv_iload_n hx hb dL_isPartSo_314 rfl (lv_at hl 4 rfl) ?_
              rcases bx_some hf with ⟨e315, hc, hf⟩ | ⟨r315, hc, hf⟩
              · exact nomatch hf
              try dsimp only at hf
              refine g_call0 (ws' := (w_0_1_2_5_6 q cI cJ cD Tn Ta Ba)) (st1 := [.int r315]) hq [0, 1, 2, 5, 6] [0, 1, 2] [.inl 0, .inl 1, .inl 2, .inr 3, .inr 4] (va_runV (As := [.int x1, .int r283, .int r283, .int x2]) (rest := []) ⟨hx, hb, hml, hown, hts⟩ (kX8_compare l D cI cJ cD q hq N Tn Ta x1 r283 r283 x2 r315 hc) (cwV 4 hts gL_isPartSo_X8_compare rfl rfl rfl (by decide +kernel) ⟨(Nat.le_of_ble_eq_true rfl), (Nat.le_of_ble_eq_true rfl)⟩) ⟨gP_blind, va_recv hE.1 hP (ci := 6) (q0 := 0) rfl rfl, fun U hU hW => ⟨rfl, by rw [hU]; exact hP.sub (ws' := (w_0_1_2 q cI cJ cD Tn Ta)) [0, 1, 2] rfl, gEv.warm hW hE⟩⟩ rfl rfl hl.1 rfl (lv_room (Nat.le_of_ble_eq_true rfl)) dL_isPartSo_315 ⟨Nat.zero_le _, Nat.zero_le _⟩) hP hS (gSub rfl) rfl rfl rfl rfl rfl (fun H locs hP hS => ?_)
              refine lv_if_ge (tgt := 334) hx hb dL_isPartSo_318 (by decide) (fun c_7 => ?_) (fun c_7 => ?_)
              · have hf := (if_pos c_7).symm.trans hf
                exact J334 Ba hf _ _ hP hS _ (lv_sub hl [] rfl)
              · have hf := (if_neg c_7).symm.trans hf
                refine lv_aload_n hx hb dL_isPartSo_321 rfl (lv_at hl 2 rfl) ?_
                refine lv_iload_n hx hb dL_isPartSo_322 rfl (lv_at hl 3 rfl) ?_
                refine lv_iload_n hx hb dL_isPartSo_323 rfl (lv_at hl 4 rfl) ?_
                rcases bx_some hf with ⟨⟨e324, Ba324⟩, hc, hf⟩ | ⟨⟨r324, Ba324⟩, hc, hf⟩
                · exact nomatch hf
                try dsimp only at hf
                refine g_call0 (ws' := (w_0_1_2_5_6 q cI cJ cD Tn Ta Ba324)) (st1 := [.int r324]) hq [0, 1, 2, 5, 6] [0, 1, 2, 5, 6] [.inl 0, .inl 1, .inl 2, .inl 3, .inl 4] (va_runV (As := [.int x1, .int x2]) (rest := []) ⟨hx, hb, hml, hown, hts⟩ (kX8_border l D cI cJ cD q hq N Tn Ta Ba x1 x2 r324 Ba324 hc) (cwV 2 hts gL_isPartSo_X8_border rfl rfl rfl (by decide +kernel) ⟨(Nat.le_of_ble_eq_true rfl), (Nat.le_of_ble_eq_true rfl)⟩) ⟨gP_blind, va_recv hE.1 hP (ci := 6) (q0 := 0) rfl rfl, fun U hU hW => ⟨rfl, by rw [hU]; exact hP.sub (ws' := (w_0_1_2_5_6 q cI cJ cD Tn Ta Ba)) [0, 1, 2, 3, 4] rfl, gEv.warm hW hE⟩⟩ rfl rfl hl.1 rfl (lv_room (Nat.le_of_ble_eq_true rfl)) dL_isPartSo_324 ⟨Nat.zero_le _, Nat.zero_le _⟩) hP hS (gSub rfl) rfl rfl rfl rfl rfl (fun H locs hP hS => ?_)
                refine lv_if_ne (tgt := 334) hx hb dL_isPartSo_327 (by decide) (fun c_8 => ?_) (fun c_8 => ?_)
                · have hf := (if_neg c_8).symm.trans hf
                  exact J334 Ba324 hf _ _ hP hS _ (lv_sub hl [] rfl)
                · have hf := (if_pos c_8).symm.trans hf
                  refine lv_iconst (v := (1 : Int32)) hx hb dL_isPartSo_330 (by decide) ?_
                  refine lv_goto (tgt := 335) hx hb dL_isPartSo_331 (by decide) ?_
                  exact J335 Ba324 (1 : Int32) hf _ _ hP hS _ (lv_sub hl [] rfl)
  have J258 : ∀ (Ba : (Nat → Int32)) (x1 : Int32) (x2 : Int32) (x3 : Int32), fL_isPartSo_J258 N Tn Ta Ba x1 x2 x3 = some (r0, Ba9) → ∀ (H : Heap) (locs : List Loc), va_P D vwCl (w_0_1_2_5_6 q cI cJ cD Tn Ta Ba) H → va_S (gA q [0, 1, 2, 5, 6]) s.heap H locs → ∀ ls : Array Slot, lv_has ls 10 [(0, .ref (q 0)), (1, .int x1), (2, .int x2), (3, .int x3)] → W p l e (headSpec wsL_isPartSo rL_isPartSo).room s m ([.ref (q 0), .int p1, .int p2] : List Value).toArray below meth c H locs 0 0 (MQ below (gQ D (some (.int r0)) (w_0_1_2_5_6 q cI cJ cD Tn Ta Ba9) (gA q [0, 1, 2, 5, 6])) ([.ref (q 0), .int p1, .int p2] : List Value).toArray s 0 0 (gA q [0, 1, 2, 5, 6])) (F0 m 258 ls []) := by
    intro Ba x1 x2 x3 hf H locs hP hS ls hl
    unfold fL_isPartSo_J258 at hf
    refine lv_iconst (v := (0 : Int32)) hx hb dL_isPartSo_258 (by decide) ?_
    exact J259 Ba x1 x2 x3 (0 : Int32) hf _ _ hP hS _ (lv_sub hl [0, 1, 2, 3] rfl)
  have J238 : ∀ (Ba : (Nat → Int32)) (x1 : Int32) (x2 : Int32) (x3 : Int32) (x4 : Int32) (y0 : Int32) (y1 : Int32), fL_isPartSo_J238 N Tn Ta Ba x1 x2 x3 x4 y0 y1 = some (r0, Ba9) → ∀ (H : Heap) (locs : List Loc), va_P D vwCl (w_0_1_2_5_6 q cI cJ cD Tn Ta Ba) H → va_S (gA q [0, 1, 2, 5, 6]) s.heap H locs → ∀ ls : Array Slot, lv_has ls 10 [(0, .ref (q 0)), (1, .int x1), (2, .int x2), (3, .int x3), (4, .int x4)] → W p l e (headSpec wsL_isPartSo rL_isPartSo).room s m ([.ref (q 0), .int p1, .int p2] : List Value).toArray below meth c H locs 0 0 (MQ below (gQ D (some (.int r0)) (w_0_1_2_5_6 q cI cJ cD Tn Ta Ba9) (gA q [0, 1, 2, 5, 6])) ([.ref (q 0), .int p1, .int p2] : List Value).toArray s 0 0 (gA q [0, 1, 2, 5, 6])) (F0 m 238 ls [.int y1, .int y0]) := by
    intro Ba x1 x2 x3 x4 y0 y1 hf H locs hP hS ls hl
    unfold fL_isPartSo_J238 at hf
    refine lv_icmp_ne (tgt := 258) hx hb dL_isPartSo_238 (by decide) (fun c_9 => ?_) (fun c_9 => ?_)
    · have hf := (if_neg c_9).symm.trans hf
      exact J258 Ba x1 x2 x3 hf _ _ hP hS _ (lv_sub hl [0, 1, 2, 3] rfl)
    · have hf := (if_pos c_9).symm.trans hf
      refine lv_aload_n hx hb dL_isPartSo_241 rfl (lv_at hl 0 rfl) ?_
      refine lv_iload_n hx hb dL_isPartSo_242 rfl (lv_at hl 1 rfl) ?_
      refine lv_iload_n hx hb dL_isPartSo_243 rfl (lv_at hl 2 rfl) ?_
      rcases bx_some hf with ⟨⟨e244, Ba244⟩, hc, hf⟩ | ⟨⟨r244, Ba244⟩, hc, hf⟩
      · exact nomatch hf
      try dsimp only at hf
      refine g_call0 (ws' := (w_0_1_2_5_6 q cI cJ cD Tn Ta Ba244)) (st1 := [.int r244]) hq [0, 1, 2, 5, 6] [0, 1, 2, 5, 6] [.inl 0, .inl 1, .inl 2, .inl 3, .inl 4] (va_runV (As := [.int x1, .int x2]) (rest := []) ⟨hx, hb, hml, hown, hts⟩ (kX8_periods l D cI cJ cD q hq N Tn Ta Ba x1 x2 r244 Ba244 hc) (cwV 2 hts gL_isPartSo_X8_periods rfl rfl rfl (by decide +kernel) ⟨(Nat.le_of_ble_eq_true rfl), (Nat.le_of_ble_eq_true rfl)⟩) ⟨gP_blind, va_recv hE.1 hP (ci := 6) (q0 := 0) rfl rfl, fun U hU hW => ⟨rfl, by rw [hU]; exact hP.sub (ws' := (w_0_1_2_5_6 q cI cJ cD Tn Ta Ba)) [0, 1, 2, 3, 4] rfl, gEv.warm hW hE⟩⟩ rfl rfl hl.1 rfl (lv_room (Nat.le_of_ble_eq_true rfl)) dL_isPartSo_244 ⟨Nat.zero_le _, Nat.zero_le _⟩) hP hS (gSub rfl) rfl rfl rfl rfl rfl (fun H locs hP hS => ?_)
      refine lv_iload_n hx hb dL_isPartSo_247 rfl (lv_at hl 3 rfl) ?_
      refine lv_iload hx hb dL_isPartSo_248 (lv_at hl 4 rfl) ?_
      obtain ⟨g_10, hf⟩ := gd_some hf
      refine lv_idiv hx hb dL_isPartSo_250 (nz_ne g_10) ?_
      refine lv_icmp_lt (tgt := 258) hx hb dL_isPartSo_251 (by decide) (fun c_11 => ?_) (fun c_11 => ?_)
      · have hf := (if_pos c_11).symm.trans hf
        exact J258 Ba244 x1 x2 x3 hf _ _ hP hS _ (lv_sub hl [0, 1, 2, 3] rfl)
      · have hf := (if_neg c_11).symm.trans hf
        refine lv_iconst (v := (1 : Int32)) hx hb dL_isPartSo_254 (by decide) ?_
        refine lv_goto (tgt := 259) hx hb dL_isPartSo_255 (by decide) ?_
        exact J259 Ba244 x1 x2 x3 (1 : Int32) hf _ _ hP hS _ (lv_sub hl [0, 1, 2, 3] rfl)
  have J237 : ∀ (Ba : (Nat → Int32)) (x1 : Int32) (x2 : Int32) (x3 : Int32) (x4 : Int32) (y0 : Int32), fL_isPartSo_J237 N Tn Ta Ba x1 x2 x3 x4 y0 = some (r0, Ba9) → ∀ (H : Heap) (locs : List Loc), va_P D vwCl (w_0_1_2_5_6 q cI cJ cD Tn Ta Ba) H → va_S (gA q [0, 1, 2, 5, 6]) s.heap H locs → ∀ ls : Array Slot, lv_has ls 10 [(0, .ref (q 0)), (1, .int x1), (2, .int x2), (3, .int x3), (4, .int x4)] → W p l e (headSpec wsL_isPartSo rL_isPartSo).room s m ([.ref (q 0), .int p1, .int p2] : List Value).toArray below meth c H locs 0 0 (MQ below (gQ D (some (.int r0)) (w_0_1_2_5_6 q cI cJ cD Tn Ta Ba9) (gA q [0, 1, 2, 5, 6])) ([.ref (q 0), .int p1, .int p2] : List Value).toArray s 0 0 (gA q [0, 1, 2, 5, 6])) (F0 m 237 ls [.int y0]) := by
    intro Ba x1 x2 x3 x4 y0 hf H locs hP hS ls hl
    unfold fL_isPartSo_J237 at hf
    refine lv_iconst (v := (0 : Int32)) hx hb dL_isPartSo_237 (by decide) ?_
    exact J238 Ba x1 x2 x3 x4 y0 (0 : Int32) hf _ _ hP hS _ (lv_sub hl [0, 1, 2, 3, 4] rfl)
  have J213 : ∀ (Ba : (Nat → Int32)) (x1 : Int32) (x2 : Int32) (x3 : Int32) (x4 : Int32) (x5 : Int32) (x6 : Int32) (y0 : Int32) (y1 : Int32), fL_isPartSo_J213 N Tn Ta Ba x1 x2 x3 x4 x5 x6 y0 y1 = some (r0, Ba9) → ∀ (H : Heap) (locs : List Loc), va_P D vwCl (w_0_1_2_5_6 q cI cJ cD Tn Ta Ba) H → va_S (gA q [0, 1, 2, 5, 6]) s.heap H locs → ∀ ls : Array Slot, lv_has ls 10 [(0, .ref (q 0)), (1, .int x1), (2, .int x2), (3, .int x3), (4, .int x4), (5, .int x5), (6, .int x6)] → W p l e (headSpec wsL_isPartSo rL_isPartSo).room s m ([.ref (q 0), .int p1, .int p2] : List Value).toArray below meth c H locs 0 0 (MQ below (gQ D (some (.int r0)) (w_0_1_2_5_6 q cI cJ cD Tn Ta Ba9) (gA q [0, 1, 2, 5, 6])) ([.ref (q 0), .int p1, .int p2] : List Value).toArray s 0 0 (gA q [0, 1, 2, 5, 6])) (F0 m 213 ls [.int y1, .int y0]) := by
    intro Ba x1 x2 x3 x4 x5 x6 y0 y1 hf H locs hP hS ls hl
    unfold fL_isPartSo_J213 at hf
    refine lv_icmp_ne (tgt := 258) hx hb dL_isPartSo_213 (by decide) (fun c_12 => ?_) (fun c_12 => ?_)
    · have hf := (if_neg c_12).symm.trans hf
      exact J258 Ba x1 x2 x3 hf _ _ hP hS _ (lv_sub hl [0, 1, 2, 3] rfl)
    · have hf := (if_pos c_12).symm.trans hf
      refine lv_aload_n hx hb dL_isPartSo_216 rfl (lv_at hl 0 rfl) ?_
      refine lv_iload_n hx hb dL_isPartSo_217 rfl (lv_at hl 1 rfl) ?_
      refine lv_iload_n hx hb dL_isPartSo_218 rfl (lv_at hl 2 rfl) ?_
      rcases bx_some hf with ⟨e219, hc, hf⟩ | ⟨r219, hc, hf⟩
      · exact nomatch hf
      try dsimp only at hf
      refine g_call0 (ws' := (w_0_1_2_5_6 q cI cJ cD Tn Ta Ba)) (st1 := [.int r219]) hq [0, 1, 2, 5, 6] [0, 1, 2] [.inl 0, .inl 1, .inl 2, .inr 3, .inr 4] (va_runV (As := [.int x1, .int x2]) (rest := []) ⟨hx, hb, hml, hown, hts⟩ (kX8_isLyndon l D cI cJ cD q hq N Tn Ta x1 x2 r219 hc) (cwV 2 hts gL_isPartSo_X8_isLyndon rfl rfl rfl (by decide +kernel) ⟨(Nat.le_of_ble_eq_true rfl), (Nat.le_of_ble_eq_true rfl)⟩) ⟨gP_blind, va_recv hE.1 hP (ci := 6) (q0 := 0) rfl rfl, fun U hU hW => ⟨rfl, by rw [hU]; exact hP.sub (ws' := (w_0_1_2 q cI cJ cD Tn Ta)) [0, 1, 2] rfl, gEv.warm hW hE⟩⟩ rfl rfl hl.1 rfl (lv_room (Nat.le_of_ble_eq_true rfl)) dL_isPartSo_219 ⟨Nat.zero_le _, Nat.zero_le _⟩) hP hS (gSub rfl) rfl rfl rfl rfl rfl (fun H locs hP hS => ?_)
      refine lv_iload hx hb dL_isPartSo_222 (lv_at hl 6 rfl) ?_
      refine lv_if_ne (tgt := 237) hx hb dL_isPartSo_224 (by decide) (fun c_13 => ?_) (fun c_13 => ?_)
      · have hf := (if_neg c_13).symm.trans hf
        exact J237 Ba x1 x2 x3 x4 r219 hf _ _ hP hS _ (lv_sub hl [0, 1, 2, 3, 4] rfl)
      · have hf := (if_pos c_13).symm.trans hf
        refine lv_iload hx hb dL_isPartSo_227 (lv_at hl 5 rfl) ?_
        refine lv_iload_n hx hb dL_isPartSo_229 rfl (lv_at hl 3 rfl) ?_
        refine lv_icmp_ne (tgt := 237) hx hb dL_isPartSo_230 (by decide) (fun c_14 => ?_) (fun c_14 => ?_)
        · have hf := (if_neg c_14).symm.trans hf
          exact J237 Ba x1 x2 x3 x4 r219 hf _ _ hP hS _ (lv_sub hl [0, 1, 2, 3, 4] rfl)
        · have hf := (if_pos c_14).symm.trans hf
          refine lv_iconst (v := (1 : Int32)) hx hb dL_isPartSo_233 (by decide) ?_
          refine lv_goto (tgt := 238) hx hb dL_isPartSo_234 (by decide) ?_
          exact J238 Ba x1 x2 x3 x4 r219 (1 : Int32) hf _ _ hP hS _ (lv_sub hl [0, 1, 2, 3, 4] rfl)
  have J176 : ∀ (Ba : (Nat → Int32)) (x1 : Int32) (x2 : Int32) (x3 : Int32) (x4 : Int32) (x5 : Int32) (x6 : Int32) (x7 : Int32) (y0 : Int32), fL_isPartSo_J176 N Tn Ta Ba x1 x2 x3 x4 x5 x6 x7 y0 = some (r0, Ba9) → ∀ (H : Heap) (locs : List Loc), va_P D vwCl (w_0_1_2_5_6 q cI cJ cD Tn Ta Ba) H → va_S (gA q [0, 1, 2, 5, 6]) s.heap H locs → ∀ ls : Array Slot, lv_has ls 10 [(0, .ref (q 0)), (1, .int x1), (2, .int x2), (3, .int x3), (4, .int x4), (5, .int x5), (6, .int x6), (7, .int x7)] → W p l e (headSpec wsL_isPartSo rL_isPartSo).room s m ([.ref (q 0), .int p1, .int p2] : List Value).toArray below meth c H locs 0 0 (MQ below (gQ D (some (.int r0)) (w_0_1_2_5_6 q cI cJ cD Tn Ta Ba9) (gA q [0, 1, 2, 5, 6])) ([.ref (q 0), .int p1, .int p2] : List Value).toArray s 0 0 (gA q [0, 1, 2, 5, 6])) (F0 m 176 ls [.int y0]) := by
    intro Ba x1 x2 x3 x4 x5 x6 x7 y0 hf H locs hP hS ls hl
    unfold fL_isPartSo_J176 at hf
    refine lv_istore (lv' := [(8, .int y0), (0, .ref (q 0)), (1, .int x1), (2, .int x2), (3, .int x3), (4, .int x4), (5, .int x5), (6, .int x6), (7, .int x7)]) hx hb dL_isPartSo_176 hl (by decide) rfl (fun ls hl => ?_)
    refine lv_iload hx hb dL_isPartSo_178 (lv_at hl 0 rfl) ?_
    refine lv_if_eq (tgt := 258) hx hb dL_isPartSo_180 (by decide) (fun c_15 => ?_) (fun c_15 => ?_)
    · have hf := (if_pos c_15).symm.trans hf
      exact J258 Ba x1 x2 x3 hf _ _ hP hS _ (lv_sub hl [1, 2, 3, 4] rfl)
    · have hf := (if_neg c_15).symm.trans hf
      refine lv_iload hx hb dL_isPartSo_183 (lv_at hl 7 rfl) ?_
      refine lv_iload hx hb dL_isPartSo_185 (lv_at hl 6 rfl) ?_
      refine lv_icmp_ge (tgt := 258) hx hb dL_isPartSo_187 (by decide) (fun c_16 => ?_) (fun c_16 => ?_)
      · have hf := (if_pos c_16).symm.trans hf
        exact J258 Ba x1 x2 x3 hf _ _ hP hS _ (lv_sub hl [1, 2, 3, 4] rfl)
      · have hf := (if_neg c_16).symm.trans hf
        refine lv_iload hx hb dL_isPartSo_190 (lv_at hl 8 rfl) ?_
        refine lv_iload hx hb dL_isPartSo_192 (lv_at hl 6 rfl) ?_
        refine lv_icmp_ge (tgt := 258) hx hb dL_isPartSo_194 (by decide) (fun c_17 => ?_) (fun c_17 => ?_)
        · have hf := (if_pos c_17).symm.trans hf
          exact J258 Ba x1 x2 x3 hf _ _ hP hS _ (lv_sub hl [1, 2, 3, 4] rfl)
        · have hf := (if_neg c_17).symm.trans hf
          refine lv_aload_n hx hb dL_isPartSo_197 rfl (lv_at hl 1 rfl) ?_
          refine lv_iload_n hx hb dL_isPartSo_198 rfl (lv_at hl 2 rfl) ?_
          refine lv_iload_n hx hb dL_isPartSo_199 rfl (lv_at hl 3 rfl) ?_
          rcases bx_some hf with ⟨e200, hc, hf⟩ | ⟨r200, hc, hf⟩
          · exact nomatch hf
          try dsimp only at hf
          refine g_call0 (ws' := (w_0_1_2_5_6 q cI cJ cD Tn Ta Ba)) (st1 := [.int r200]) hq [0, 1, 2, 5, 6] [0, 1, 2] [.inl 0, .inl 1, .inl 2, .inr 3, .inr 4] (va_runV (As := [.int x1, .int x2]) (rest := []) ⟨hx, hb, hml, hown, hts⟩ (kX8_isNecklace l D cI cJ cD q hq N Tn Ta x1 x2 r200 hc) (cwV 2 hts gL_isPartSo_X8_isNecklace rfl rfl rfl (by decide +kernel) ⟨(Nat.le_of_ble_eq_true rfl), (Nat.le_of_ble_eq_true rfl)⟩) ⟨gP_blind, va_recv hE.1 hP (ci := 6) (q0 := 0) rfl rfl, fun U hU hW => ⟨rfl, by rw [hU]; exact hP.sub (ws' := (w_0_1_2 q cI cJ cD Tn Ta)) [0, 1, 2] rfl, gEv.warm hW hE⟩⟩ rfl rfl hl.1 rfl (lv_room (Nat.le_of_ble_eq_true rfl)) dL_isPartSo_200 ⟨Nat.zero_le _, Nat.zero_le _⟩) hP hS (gSub rfl) rfl rfl rfl rfl rfl (fun H locs hP hS => ?_)
          refine lv_iload hx hb dL_isPartSo_203 (lv_at hl 7 rfl) ?_
          refine lv_if_ne (tgt := 212) hx hb dL_isPartSo_205 (by decide) (fun c_18 => ?_) (fun c_18 => ?_)
          · have hf := (if_neg c_18).symm.trans hf
            refine lv_iconst (v := (0 : Int32)) hx hb dL_isPartSo_212 (by decide) ?_
            exact J213 Ba x1 x2 x3 x4 x5 x6 r200 (0 : Int32) hf _ _ hP hS _ (lv_sub hl [1, 2, 3, 4, 5, 6, 7] rfl)
          · have hf := (if_pos c_18).symm.trans hf
            refine lv_iconst (v := (1 : Int32)) hx hb dL_isPartSo_208 (by decide) ?_
            refine lv_goto (tgt := 213) hx hb dL_isPartSo_209 (by decide) ?_
            exact J213 Ba x1 x2 x3 x4 x5 x6 r200 (1 : Int32) hf _ _ hP hS _ (lv_sub hl [1, 2, 3, 4, 5, 6, 7] rfl)
  have J175 : ∀ (Ba : (Nat → Int32)) (x1 : Int32) (x2 : Int32) (x3 : Int32) (x4 : Int32) (x5 : Int32) (x6 : Int32) (x7 : Int32), fL_isPartSo_J175 N Tn Ta Ba x1 x2 x3 x4 x5 x6 x7 = some (r0, Ba9) → ∀ (H : Heap) (locs : List Loc), va_P D vwCl (w_0_1_2_5_6 q cI cJ cD Tn Ta Ba) H → va_S (gA q [0, 1, 2, 5, 6]) s.heap H locs → ∀ ls : Array Slot, lv_has ls 10 [(0, .ref (q 0)), (1, .int x1), (2, .int x2), (3, .int x3), (4, .int x4), (5, .int x5), (6, .int x6), (7, .int x7)] → W p l e (headSpec wsL_isPartSo rL_isPartSo).room s m ([.ref (q 0), .int p1, .int p2] : List Value).toArray below meth c H locs 0 0 (MQ below (gQ D (some (.int r0)) (w_0_1_2_5_6 q cI cJ cD Tn Ta Ba9) (gA q [0, 1, 2, 5, 6])) ([.ref (q 0), .int p1, .int p2] : List Value).toArray s 0 0 (gA q [0, 1, 2, 5, 6])) (F0 m 175 ls []) := by
    intro Ba x1 x2 x3 x4 x5 x6 x7 hf H locs hP hS ls hl
    unfold fL_isPartSo_J175 at hf
    refine lv_iconst (v := (0 : Int32)) hx hb dL_isPartSo_175 (by decide) ?_
    exact J176 Ba x1 x2 x3 x4 x5 x6 x7 (0 : Int32) hf _ _ hP hS _ (lv_sub hl [0, 1, 2, 3, 4, 5, 6, 7] rfl)
  have J155 : ∀ (Ba : (Nat → Int32)) (x1 : Int32) (x2 : Int32) (x3 : Int32) (x4 : Int32) (x5 : Int32) (x6 : Int32) (x7 : Int32), fL_isPartSo_J155 N Tn Ta Ba x1 x2 x3 x4 x5 x6 x7 = some (r0, Ba9) → ∀ (H : Heap) (locs : List Loc), va_P D vwCl (w_0_1_2_5_6 q cI cJ cD Tn Ta Ba) H → va_S (gA q [0, 1, 2, 5, 6]) s.heap H locs → ∀ ls : Array Slot, lv_has ls 10 [(0, .ref (q 0)), (1, .int x1), (2, .int x2), (3, .int x3), (4, .int x4), (5, .int x5), (6, .int x6), (7, .int x7)] → W p l e (headSpec wsL_isPartSo rL_isPartSo).room s m ([.ref (q 0), .int p1, .int p2] : List Value).toArray below meth c H locs 0 0 (MQ below (gQ D (some (.int r0)) (w_0_1_2_5_6 q cI cJ cD Tn Ta Ba9) (gA q [0, 1, 2, 5, 6])) ([.ref (q 0), .int p1, .int p2] : List Value).toArray s 0 0 (gA q [0, 1, 2, 5, 6])) (F0 m 155 ls []) := by
    intro Ba x1 x2 x3 x4 x5 x6 x7 hf H locs hP hS ls hl
    unfold fL_isPartSo_J155 at hf
    refine lv_aload_n hx hb dL_isPartSo_155 rfl (lv_at hl 0 rfl) ?_
    refine lv_iload_n hx hb dL_isPartSo_156 rfl (lv_at hl 1 rfl) ?_
    refine lv_iload_n hx hb dL_isPartSo_157 rfl (lv_at hl 2 rfl) ?_
    rcases bx_some hf with ⟨⟨e158, Ba158⟩, hc, hf⟩ | ⟨⟨r158, Ba158⟩, hc, hf⟩
    · exact nomatch hf
    try dsimp only at hf
    refine g_call0 (ws' := (w_0_1_2_5_6 q cI cJ cD Tn Ta Ba158)) (st1 := [.double r158]) hq [0, 1, 2, 5, 6] [0, 1, 2, 5, 6] [.inl 0, .inl 1, .inl 2, .inl 3, .inl 4] (va_runV (As := [.int x1, .int x2]) (rest := []) ⟨hx, hb, hml, hown, hts⟩ (kX8_exponent l D cI cJ cD q hq N Tn Ta Ba x1 x2 r158 Ba158 hc) (cwV 2 hts gL_isPartSo_X8_exponent rfl rfl rfl (by decide +kernel) ⟨(Nat.le_of_ble_eq_true rfl), (Nat.le_of_ble_eq_true rfl)⟩) ⟨gP_blind, va_recv hE.1 hP (ci := 6) (q0 := 0) rfl rfl, fun U hU hW => ⟨rfl, by rw [hU]; exact hP.sub (ws' := (w_0_1_2_5_6 q cI cJ cD Tn Ta Ba)) [0, 1, 2, 3, 4] rfl, gEv.warm hW hE⟩⟩ rfl rfl hl.1 rfl (lv_room (Nat.le_of_ble_eq_true rfl)) dL_isPartSo_158 ⟨Nat.zero_le _, Nat.zero_le _⟩) hP hS (gSub rfl) rfl rfl rfl rfl rfl (fun H locs hP hS => ?_)
    refine lv_iload_n hx hb dL_isPartSo_161 rfl (lv_at hl 3 rfl) ?_
    refine lv_i2d hx hb dL_isPartSo_162 ?_
    refine lv_iload hx hb dL_isPartSo_163 (lv_at hl 4 rfl) ?_
    refine lv_i2d hx hb dL_isPartSo_165 ?_
    obtain ⟨g_19, hf⟩ := gd_some hf
    refine lv_ddiv hx hb dL_isPartSo_166 (nonan_n g_19) ?_
    refine lv_dcmp hx hb dL_isPartSo_167 ?_
    refine lv_if_ne (tgt := 175) hx hb dL_isPartSo_168 (by decide) (fun c_20 => ?_) (fun c_20 => ?_)
    · have hf := (if_neg c_20).symm.trans hf
      exact J175 Ba158 x1 x2 x3 x4 x5 x6 x7 hf _ _ hP hS _ (lv_sub hl [0, 1, 2, 3, 4, 5, 6, 7] rfl)
    · have hf := (if_pos c_20).symm.trans hf
      refine lv_iconst (v := (1 : Int32)) hx hb dL_isPartSo_171 (by decide) ?_
      refine lv_goto (tgt := 176) hx hb dL_isPartSo_172 (by decide) ?_
      exact J176 Ba158 x1 x2 x3 x4 x5 x6 x7 (1 : Int32) hf _ _ hP hS _ (lv_sub hl [0, 1, 2, 3, 4, 5, 6, 7] rfl)
  have J105 : ∀ (Ba : (Nat → Int32)) (x1 : Int32) (x2 : Int32) (x3 : Int32) (x4 : Int32) (x5 : Int32) (x6 : Int32) (x7 : Int32) (y0 : Int32), fL_isPartSo_J105 N Tn Ta Ba x1 x2 x3 x4 x5 x6 x7 y0 = some (r0, Ba9) → ∀ (H : Heap) (locs : List Loc), va_P D vwCl (w_0_1_2_5_6 q cI cJ cD Tn Ta Ba) H → va_S (gA q [0, 1, 2, 5, 6]) s.heap H locs → ∀ ls : Array Slot, lv_has ls 10 [(0, .ref (q 0)), (1, .int x1), (2, .int x2), (3, .int x3), (4, .int x4), (5, .int x5), (6, .int x6), (7, .int x7)] → W p l e (headSpec wsL_isPartSo rL_isPartSo).room s m ([.ref (q 0), .int p1, .int p2] : List Value).toArray below meth c H locs 0 0 (MQ below (gQ D (some (.int r0)) (w_0_1_2_5_6 q cI cJ cD Tn Ta Ba9) (gA q [0, 1, 2, 5, 6])) ([.ref (q 0), .int p1, .int p2] : List Value).toArray s 0 0 (gA q [0, 1, 2, 5, 6])) (F0 m 105 ls [.int y0]) := by
    intro Ba x1 x2 x3 x4 x5 x6 x7 y0 hf H locs hP hS ls hl
    unfold fL_isPartSo_J105 at hf
    refine lv_istore (lv' := [(8, .int y0), (0, .ref (q 0)), (1, .int x1), (2, .int x2), (3, .int x3), (4, .int x4), (5, .int x5), (6, .int x6), (7, .int x7)]) hx hb dL_isPartSo_105 hl (by decide) rfl (fun ls hl => ?_)
    refine lv_iload hx hb dL_isPartSo_107 (lv_at hl 0 rfl) ?_
    refine lv_if_eq (tgt := 175) hx hb dL_isPartSo_109 (by decide) (fun c_21 => ?_) (fun c_21 => ?_)
    · have hf := (if_pos c_21).symm.trans hf
      exact J175 Ba x1 x2 x3 x4 x5 x6 x7 hf _ _ hP hS _ (lv_sub hl [1, 2, 3, 4, 5, 6, 7, 8] rfl)
    · have hf := (if_neg c_21).symm.trans hf
      refine lv_iload_n hx hb dL_isPartSo_112 rfl (lv_at hl 4 rfl) ?_
      refine lv_iload hx hb dL_isPartSo_113 (lv_at hl 6 rfl) ?_
      obtain ⟨g_22, hf⟩ := gd_some hf
      refine lv_irem hx hb dL_isPartSo_115 (nz_ne g_22) ?_
      refine lv_if_ne (tgt := 175) hx hb dL_isPartSo_116 (by decide) (fun c_23 => ?_) (fun c_23 => ?_)
      · have hf := (if_neg c_23).symm.trans hf
        exact J175 Ba x1 x2 x3 x4 x5 x6 x7 hf _ _ hP hS _ (lv_sub hl [1, 2, 3, 4, 5, 6, 7, 8] rfl)
      · have hf := (if_pos c_23).symm.trans hf
        refine lv_aload_n hx hb dL_isPartSo_119 rfl (lv_at hl 1 rfl) ?_
        refine lv_iload_n hx hb dL_isPartSo_120 rfl (lv_at hl 2 rfl) ?_
        refine lv_iload_n hx hb dL_isPartSo_121 rfl (lv_at hl 3 rfl) ?_
        refine lv_iload hx hb dL_isPartSo_122 (lv_at hl 6 rfl) ?_
        rcases bx_some hf with ⟨e124, hc, hf⟩ | ⟨r124, hc, hf⟩
        · exact nomatch hf
        try dsimp only at hf
        refine g_call0 (ws' := (w_0_1_2_5_6 q cI cJ cD Tn Ta Ba)) (st1 := [.int r124]) hq [0, 1, 2, 5, 6] [0, 1, 2] [.inl 0, .inl 1, .inl 2, .inr 3, .inr 4] (va_runV (As := [.int x1, .int x2, .int x5]) (rest := []) ⟨hx, hb, hml, hown, hts⟩ (kX8_isPeriod l D cI cJ cD q hq N Tn Ta x1 x2 x5 r124 hc) (cwV 3 hts gL_isPartSo_X8_isPeriod rfl rfl rfl (by decide +kernel) ⟨(Nat.le_of_ble_eq_true rfl), (Nat.le_of_ble_eq_true rfl)⟩) ⟨gP_blind, va_recv hE.1 hP (ci := 6) (q0 := 0) rfl rfl, fun U hU hW => ⟨rfl, by rw [hU]; exact hP.sub (ws' := (w_0_1_2 q cI cJ cD Tn Ta)) [0, 1, 2] rfl, gEv.warm hW hE⟩⟩ rfl rfl hl.1 rfl (lv_room (Nat.le_of_ble_eq_true rfl)) dL_isPartSo_124 ⟨Nat.zero_le _, Nat.zero_le _⟩) hP hS (gSub rfl) rfl rfl rfl rfl rfl (fun H locs hP hS => ?_)
        refine lv_if_eq (tgt := 175) hx hb dL_isPartSo_127 (by decide) (fun c_24 => ?_) (fun c_24 => ?_)
        · have hf := (if_pos c_24).symm.trans hf
          exact J175 Ba x1 x2 x3 x4 x5 x6 x7 hf _ _ hP hS _ (lv_sub hl [1, 2, 3, 4, 5, 6, 7, 8] rfl)
        · have hf := (if_neg c_24).symm.trans hf
          refine lv_aload_n hx hb dL_isPartSo_130 rfl (lv_at hl 1 rfl) ?_
          refine lv_iload_n hx hb dL_isPartSo_131 rfl (lv_at hl 2 rfl) ?_
          refine lv_iload_n hx hb dL_isPartSo_132 rfl (lv_at hl 3 rfl) ?_
          rcases bx_some hf with ⟨⟨e133, Ba133⟩, hc, hf⟩ | ⟨⟨r133, Ba133⟩, hc, hf⟩
          · exact nomatch hf
          try dsimp only at hf
          refine g_call0 (ws' := (w_0_1_2_5_6 q cI cJ cD Tn Ta Ba133)) (st1 := [.int r133]) hq [0, 1, 2, 5, 6] [0, 1, 2, 5, 6] [.inl 0, .inl 1, .inl 2, .inl 3, .inl 4] (va_runV (As := [.int x1, .int x2]) (rest := []) ⟨hx, hb, hml, hown, hts⟩ (kX8_rotations l D cI cJ cD q hq N Tn Ta Ba x1 x2 r133 Ba133 hc) (cwV 2 hts gL_isPartSo_X8_rotations rfl rfl rfl (by decide +kernel) ⟨(Nat.le_of_ble_eq_true rfl), (Nat.le_of_ble_eq_true rfl)⟩) ⟨gP_blind, va_recv hE.1 hP (ci := 6) (q0 := 0) rfl rfl, fun U hU hW => ⟨rfl, by rw [hU]; exact hP.sub (ws' := (w_0_1_2_5_6 q cI cJ cD Tn Ta Ba)) [0, 1, 2, 3, 4] rfl, gEv.warm hW hE⟩⟩ rfl rfl hl.1 rfl (lv_room (Nat.le_of_ble_eq_true rfl)) dL_isPartSo_133 ⟨Nat.zero_le _, Nat.zero_le _⟩) hP hS (gSub rfl) rfl rfl rfl rfl rfl (fun H locs hP hS => ?_)
          refine lv_iload hx hb dL_isPartSo_136 (lv_at hl 6 rfl) ?_
          refine lv_icmp_ne (tgt := 175) hx hb dL_isPartSo_138 (by decide) (fun c_25 => ?_) (fun c_25 => ?_)
          · have hf := (if_neg c_25).symm.trans hf
            exact J175 Ba133 x1 x2 x3 x4 x5 x6 x7 hf _ _ hP hS _ (lv_sub hl [1, 2, 3, 4, 5, 6, 7, 8] rfl)
          · have hf := (if_pos c_25).symm.trans hf
            refine lv_iload_n hx hb dL_isPartSo_141 rfl (lv_at hl 4 rfl) ?_
            refine lv_iload hx hb dL_isPartSo_142 (lv_at hl 5 rfl) ?_
            obtain ⟨g_26, hf⟩ := gd_some hf
            refine lv_irem hx hb dL_isPartSo_144 (nz_ne g_26) ?_
            refine lv_if_ne (tgt := 155) hx hb dL_isPartSo_145 (by decide) (fun c_27 => ?_) (fun c_27 => ?_)
            · have hf := (if_neg c_27).symm.trans hf
              exact J155 Ba133 x1 x2 x3 x4 x5 x6 x7 hf _ _ hP hS _ (lv_sub hl [1, 2, 3, 4, 5, 6, 7, 8] rfl)
            · have hf := (if_pos c_27).symm.trans hf
              refine lv_iload hx hb dL_isPartSo_148 (lv_at hl 6 rfl) ?_
              refine lv_iload hx hb dL_isPartSo_150 (lv_at hl 5 rfl) ?_
              refine lv_icmp_ne (tgt := 175) hx hb dL_isPartSo_152 (by decide) (fun c_28 => ?_) (fun c_28 => ?_)
              · have hf := (if_neg c_28).symm.trans hf
                exact J175 Ba133 x1 x2 x3 x4 x5 x6 x7 hf _ _ hP hS _ (lv_sub hl [1, 2, 3, 4, 5, 6, 7, 8] rfl)
              · have hf := (if_pos c_28).symm.trans hf
                exact J155 Ba133 x1 x2 x3 x4 x5 x6 x7 hf _ _ hP hS _ (lv_sub hl [1, 2, 3, 4, 5, 6, 7, 8] rfl)
  have J100 : ∀ (Ba : (Nat → Int32)) (x1 : Int32) (x2 : Int32) (x3 : Int32) (x4 : Int32) (x5 : Int32) (x6 : Int32) (x7 : Int32), fL_isPartSo_J100 N Tn Ta Ba x1 x2 x3 x4 x5 x6 x7 = some (r0, Ba9) → ∀ (H : Heap) (locs : List Loc), va_P D vwCl (w_0_1_2_5_6 q cI cJ cD Tn Ta Ba) H → va_S (gA q [0, 1, 2, 5, 6]) s.heap H locs → ∀ ls : Array Slot, lv_has ls 10 [(0, .ref (q 0)), (1, .int x1), (2, .int x2), (3, .int x3), (4, .int x4), (5, .int x5), (6, .int x6), (7, .int x7)] → W p l e (headSpec wsL_isPartSo rL_isPartSo).room s m ([.ref (q 0), .int p1, .int p2] : List Value).toArray below meth c H locs 0 0 (MQ below (gQ D (some (.int r0)) (w_0_1_2_5_6 q cI cJ cD Tn Ta Ba9) (gA q [0, 1, 2, 5, 6])) ([.ref (q 0), .int p1, .int p2] : List Value).toArray s 0 0 (gA q [0, 1, 2, 5, 6])) (F0 m 100 ls []) := by
    intro Ba x1 x2 x3 x4 x5 x6 x7 hf H locs hP hS ls hl
    unfold fL_isPartSo_J100 at hf
    refine lv_iconst (v := (1 : Int32)) hx hb dL_isPartSo_100 (by decide) ?_
    refine lv_goto (tgt := 105) hx hb dL_isPartSo_101 (by decide) ?_
    exact J105 Ba x1 x2 x3 x4 x5 x6 x7 (1 : Int32) hf _ _ hP hS _ (lv_sub hl [0, 1, 2, 3, 4, 5, 6, 7] rfl)
  have J104 : ∀ (Ba : (Nat → Int32)) (x1 : Int32) (x2 : Int32) (x3 : Int32) (x4 : Int32) (x5 : Int32) (x6 : Int32) (x7 : Int32), fL_isPartSo_J104 N Tn Ta Ba x1 x2 x3 x4 x5 x6 x7 = some (r0, Ba9) → ∀ (H : Heap) (locs : List Loc), va_P D vwCl (w_0_1_2_5_6 q cI cJ cD Tn Ta Ba) H → va_S (gA q [0, 1, 2, 5, 6]) s.heap H locs → ∀ ls : Array Slot, lv_has ls 10 [(0, .ref (q 0)), (1, .int x1), (2, .int x2), (3, .int x3), (4, .int x4), (5, .int x5), (6, .int x6), (7, .int x7)] → W p l e (headSpec wsL_isPartSo rL_isPartSo).room s m ([.ref (q 0), .int p1, .int p2] : List Value).toArray below meth c H locs 0 0 (MQ below (gQ D (some (.int r0)) (w_0_1_2_5_6 q cI cJ cD Tn Ta Ba9) (gA q [0, 1, 2, 5, 6])) ([.ref (q 0), .int p1, .int p2] : List Value).toArray s 0 0 (gA q [0, 1, 2, 5, 6])) (F0 m 104 ls []) := by
    intro Ba x1 x2 x3 x4 x5 x6 x7 hf H locs hP hS ls hl
    unfold fL_isPartSo_J104 at hf
    refine lv_iconst (v := (0 : Int32)) hx hb dL_isPartSo_104 (by decide) ?_
    exact J105 Ba x1 x2 x3 x4 x5 x6 x7 (0 : Int32) hf _ _ hP hS _ (lv_sub hl [0, 1, 2, 3, 4, 5, 6, 7] rfl)
  unfold fL_isPartSo at hf
  refine lv_iload_n hx hb dL_isPartSo_0 rfl (lv_at hl 2 rfl) ?_
  refine lv_iload_n hx hb dL_isPartSo_1 rfl (lv_at hl 1 rfl) ?_
  refine lv_isub hx hb dL_isPartSo_2 ?_
  refine lv_istore_n (lv' := [(3, .int (p2 - p1)), (0, .ref (q 0)), (1, .int p1), (2, .int p2)]) hx hb dL_isPartSo_3 rfl hl (by decide) rfl (fun ls hl => ?_)
  refine lv_aload_n hx hb dL_isPartSo_4 rfl (lv_at hl 1 rfl) ?_
  refine lv_iload_n hx hb dL_isPartSo_5 rfl (lv_at hl 2 rfl) ?_
  refine lv_iload_n hx hb dL_isPartSo_6 rfl (lv_at hl 3 rfl) ?_
  rcases bx_some hf with ⟨⟨e7, Ba7⟩, hc, hf⟩ | ⟨⟨r7, Ba7⟩, hc, hf⟩
  · exact nomatch hf
  try dsimp only at hf
  refine g_call0 (ws' := (w_0_1_2_5_6 q cI cJ cD Tn Ta Ba7)) (st1 := [.int r7]) hq [0, 1, 2, 5, 6] [0, 1, 2, 5, 6] [.inl 0, .inl 1, .inl 2, .inl 3, .inl 4] (va_runV (As := [.int p1, .int p2]) (rest := []) ⟨hx, hb, hml, hown, hts⟩ (kX8_period l D cI cJ cD q hq N Tn Ta Ba p1 p2 r7 Ba7 hc) (cwV 2 hts gL_isPartSo_X8_period rfl rfl rfl (by decide +kernel) ⟨(Nat.le_of_ble_eq_true rfl), (Nat.le_of_ble_eq_true rfl)⟩) ⟨gP_blind, va_recv hE.1 hP (ci := 6) (q0 := 0) rfl rfl, fun U hU hW => ⟨rfl, by rw [hU]; exact hP.sub (ws' := (w_0_1_2_5_6 q cI cJ cD Tn Ta Ba)) [0, 1, 2, 3, 4] rfl, gEv.warm hW hE⟩⟩ rfl rfl hl.1 rfl (lv_room (Nat.le_of_ble_eq_true rfl)) dL_isPartSo_7 ⟨Nat.zero_le _, Nat.zero_le _⟩) hP hS (gSub rfl) rfl rfl rfl rfl rfl (fun H locs hP hS => ?_)
  refine lv_istore (lv' := [(4, .int r7), (3, .int (p2 - p1)), (0, .ref (q 0)), (1, .int p1), (2, .int p2)]) hx hb dL_isPartSo_10 hl (by decide) rfl (fun ls hl => ?_)
  refine lv_aload_n hx hb dL_isPartSo_12 rfl (lv_at hl 2 rfl) ?_
  refine lv_iload_n hx hb dL_isPartSo_13 rfl (lv_at hl 3 rfl) ?_
  refine lv_iload_n hx hb dL_isPartSo_14 rfl (lv_at hl 4 rfl) ?_
  rcases bx_some hf with ⟨⟨e15, Ba15⟩, hc, hf⟩ | ⟨⟨r15, Ba15⟩, hc, hf⟩
  · exact nomatch hf
  try dsimp only at hf
  refine g_call0 (ws' := (w_0_1_2_5_6 q cI cJ cD Tn Ta Ba15)) (st1 := [.int r15]) hq [0, 1, 2, 5, 6] [0, 1, 2, 5, 6] [.inl 0, .inl 1, .inl 2, .inl 3, .inl 4] (va_runV (As := [.int p1, .int p2]) (rest := []) ⟨hx, hb, hml, hown, hts⟩ (kX8_rootLength l D cI cJ cD q hq N Tn Ta Ba7 p1 p2 r15 Ba15 hc) (cwV 2 hts gL_isPartSo_X8_rootLength rfl rfl rfl (by decide +kernel) ⟨(Nat.le_of_ble_eq_true rfl), (Nat.le_of_ble_eq_true rfl)⟩) ⟨gP_blind, va_recv hE.1 hP (ci := 6) (q0 := 0) rfl rfl, fun U hU hW => ⟨rfl, by rw [hU]; exact hP.sub (ws' := (w_0_1_2_5_6 q cI cJ cD Tn Ta Ba7)) [0, 1, 2, 3, 4] rfl, gEv.warm hW hE⟩⟩ rfl rfl hl.1 rfl (lv_room (Nat.le_of_ble_eq_true rfl)) dL_isPartSo_15 ⟨Nat.zero_le _, Nat.zero_le _⟩) hP hS (gSub rfl) rfl rfl rfl rfl rfl (fun H locs hP hS => ?_)
  refine lv_istore (lv' := [(5, .int r15), (4, .int r7), (3, .int (p2 - p1)), (0, .ref (q 0)), (1, .int p1), (2, .int p2)]) hx hb dL_isPartSo_18 hl (by decide) rfl (fun ls hl => ?_)
  refine lv_aload_n hx hb dL_isPartSo_20 rfl (lv_at hl 3 rfl) ?_
  refine lv_iload_n hx hb dL_isPartSo_21 rfl (lv_at hl 4 rfl) ?_
  refine lv_iload_n hx hb dL_isPartSo_22 rfl (lv_at hl 5 rfl) ?_
  rcases bx_some hf with ⟨e23, hc, hf⟩ | ⟨r23, hc, hf⟩
  · exact nomatch hf
  try dsimp only at hf
  refine g_call0 (ws' := (w_0_1_2_5_6 q cI cJ cD Tn Ta Ba15)) (st1 := [.int r23]) hq [0, 1, 2, 5, 6] [0, 1, 2] [.inl 0, .inl 1, .inl 2, .inr 3, .inr 4] (va_runV (As := [.int p1, .int p2]) (rest := []) ⟨hx, hb, hml, hown, hts⟩ (kX8_leastRotation l D cI cJ cD q hq N Tn Ta p1 p2 r23 hc) (cwV 2 hts gL_isPartSo_X8_leastRotation rfl rfl rfl (by decide +kernel) ⟨(Nat.le_of_ble_eq_true rfl), (Nat.le_of_ble_eq_true rfl)⟩) ⟨gP_blind, va_recv hE.1 hP (ci := 6) (q0 := 0) rfl rfl, fun U hU hW => ⟨rfl, by rw [hU]; exact hP.sub (ws' := (w_0_1_2 q cI cJ cD Tn Ta)) [0, 1, 2] rfl, gEv.warm hW hE⟩⟩ rfl rfl hl.1 rfl (lv_room (Nat.le_of_ble_eq_true rfl)) dL_isPartSo_23 ⟨Nat.zero_le _, Nat.zero_le _⟩) hP hS (gSub rfl) rfl rfl rfl rfl rfl (fun H locs hP hS => ?_)
  refine lv_istore (lv' := [(6, .int r23), (5, .int r15), (4, .int r7), (3, .int (p2 - p1)), (0, .ref (q 0)), (1, .int p1), (2, .int p2)]) hx hb dL_isPartSo_26 hl (by decide) rfl (fun ls hl => ?_)
  refine lv_aload_n hx hb dL_isPartSo_28 rfl (lv_at hl 4 rfl) ?_
  refine lv_iload_n hx hb dL_isPartSo_29 rfl (lv_at hl 5 rfl) ?_
  refine lv_iload_n hx hb dL_isPartSo_30 rfl (lv_at hl 6 rfl) ?_
  rcases bx_some hf with ⟨e31, hc, hf⟩ | ⟨r31, hc, hf⟩
  · exact nomatch hf
  try dsimp only at hf
  refine g_call0 (ws' := (w_0_1_2_5_6 q cI cJ cD Tn Ta Ba15)) (st1 := [.int r31]) hq [0, 1, 2, 5, 6] [0, 1, 2] [.inl 0, .inl 1, .inl 2, .inr 3, .inr 4] (va_runV (As := [.int p1, .int p2]) (rest := []) ⟨hx, hb, hml, hown, hts⟩ (kX8_greatestRotation l D cI cJ cD q hq N Tn Ta p1 p2 r31 hc) (cwV 2 hts gL_isPartSo_X8_greatestRotation rfl rfl rfl (by decide +kernel) ⟨(Nat.le_of_ble_eq_true rfl), (Nat.le_of_ble_eq_true rfl)⟩) ⟨gP_blind, va_recv hE.1 hP (ci := 6) (q0 := 0) rfl rfl, fun U hU hW => ⟨rfl, by rw [hU]; exact hP.sub (ws' := (w_0_1_2 q cI cJ cD Tn Ta)) [0, 1, 2] rfl, gEv.warm hW hE⟩⟩ rfl rfl hl.1 rfl (lv_room (Nat.le_of_ble_eq_true rfl)) dL_isPartSo_31 ⟨Nat.zero_le _, Nat.zero_le _⟩) hP hS (gSub rfl) rfl rfl rfl rfl rfl (fun H locs hP hS => ?_)
  refine lv_istore (lv' := [(7, .int r31), (6, .int r23), (5, .int r15), (4, .int r7), (3, .int (p2 - p1)), (0, .ref (q 0)), (1, .int p1), (2, .int p2)]) hx hb dL_isPartSo_34 hl (by decide) rfl (fun ls hl => ?_)
  refine lv_iload hx hb dL_isPartSo_36 (lv_at hl 3 rfl) ?_
  refine lv_aload_n hx hb dL_isPartSo_38 rfl (lv_at hl 5 rfl) ?_
  refine lv_iload_n hx hb dL_isPartSo_39 rfl (lv_at hl 6 rfl) ?_
  refine lv_iload_n hx hb dL_isPartSo_40 rfl (lv_at hl 7 rfl) ?_
  rcases bx_some hf with ⟨⟨e41, Ba41⟩, hc, hf⟩ | ⟨⟨r41, Ba41⟩, hc, hf⟩
  · exact nomatch hf
  try dsimp only at hf
  refine g_call0 (ws' := (w_0_1_2_5_6 q cI cJ cD Tn Ta Ba41)) (st1 := [.int r41, .int r7]) hq [0, 1, 2, 5, 6] [0, 1, 2, 5, 6] [.inl 0, .inl 1, .inl 2, .inl 3, .inl 4] (va_runV (As := [.int p1, .int p2]) (rest := [.int r7]) ⟨hx, hb, hml, hown, hts⟩ (kX8_border l D cI cJ cD q hq N Tn Ta Ba15 p1 p2 r41 Ba41 hc) (cwV 2 hts gL_isPartSo_X8_border rfl rfl rfl (by decide +kernel) ⟨(Nat.le_of_ble_eq_true rfl), (Nat.le_of_ble_eq_true rfl)⟩) ⟨gP_blind, va_recv hE.1 hP (ci := 6) (q0 := 0) rfl rfl, fun U hU hW => ⟨rfl, by rw [hU]; exact hP.sub (ws' := (w_0_1_2_5_6 q cI cJ cD Tn Ta Ba15)) [0, 1, 2, 3, 4] rfl, gEv.warm hW hE⟩⟩ rfl rfl hl.1 rfl (lv_room (Nat.le_of_ble_eq_true rfl)) dL_isPartSo_41 ⟨Nat.zero_le _, Nat.zero_le _⟩) hP hS (gSub rfl) rfl rfl rfl rfl rfl (fun H locs hP hS => ?_)
  refine lv_iadd hx hb dL_isPartSo_44 ?_
  refine lv_iload_n hx hb dL_isPartSo_45 rfl (lv_at hl 4 rfl) ?_
  refine lv_icmp_ne (tgt := 104) hx hb dL_isPartSo_46 (by decide) (fun c_29 => ?_) (fun c_29 => ?_)
  · have hf := (if_neg c_29).symm.trans hf
    exact J104 Ba41 p1 p2 (p2 - p1) r7 r15 r23 r31 hf _ _ hP hS _ (lv_sub hl [5, 6, 7, 4, 3, 2, 1, 0] rfl)
  · have hf := (if_pos c_29).symm.trans hf
    refine lv_aload_n hx hb dL_isPartSo_49 rfl (lv_at hl 5 rfl) ?_
    refine lv_iload_n hx hb dL_isPartSo_50 rfl (lv_at hl 6 rfl) ?_
    refine lv_iload_n hx hb dL_isPartSo_51 rfl (lv_at hl 7 rfl) ?_
    rcases bx_some hf with ⟨e52, hc, hf⟩ | ⟨r52, hc, hf⟩
    · exact nomatch hf
    try dsimp only at hf
    refine g_call0 (ws' := (w_0_1_2_5_6 q cI cJ cD Tn Ta Ba41)) (st1 := [.int r52]) hq [0, 1, 2, 5, 6] [0, 1, 2] [.inl 0, .inl 1, .inl 2, .inr 3, .inr 4] (va_runV (As := [.int p1, .int p2]) (rest := []) ⟨hx, hb, hml, hown, hts⟩ (kX8_periodByTrying l D cI cJ cD q hq N Tn Ta p1 p2 r52 hc) (cwV 2 hts gL_isPartSo_X8_periodByTrying rfl rfl rfl (by decide +kernel) ⟨(Nat.le_of_ble_eq_true rfl), (Nat.le_of_ble_eq_true rfl)⟩) ⟨gP_blind, va_recv hE.1 hP (ci := 6) (q0 := 0) rfl rfl, fun U hU hW => ⟨rfl, by rw [hU]; exact hP.sub (ws' := (w_0_1_2 q cI cJ cD Tn Ta)) [0, 1, 2] rfl, gEv.warm hW hE⟩⟩ rfl rfl hl.1 rfl (lv_room (Nat.le_of_ble_eq_true rfl)) dL_isPartSo_52 ⟨Nat.zero_le _, Nat.zero_le _⟩) hP hS (gSub rfl) rfl rfl rfl rfl rfl (fun H locs hP hS => ?_)
    refine lv_iload hx hb dL_isPartSo_55 (lv_at hl 3 rfl) ?_
    refine lv_icmp_ne (tgt := 104) hx hb dL_isPartSo_57 (by decide) (fun c_30 => ?_) (fun c_30 => ?_)
    · have hf := (if_neg c_30).symm.trans hf
      exact J104 Ba41 p1 p2 (p2 - p1) r7 r15 r23 r31 hf _ _ hP hS _ (lv_sub hl [5, 6, 7, 4, 3, 2, 1, 0] rfl)
    · have hf := (if_pos c_30).symm.trans hf
      refine lv_aload_n hx hb dL_isPartSo_60 rfl (lv_at hl 5 rfl) ?_
      refine lv_iload_n hx hb dL_isPartSo_61 rfl (lv_at hl 6 rfl) ?_
      refine lv_iload_n hx hb dL_isPartSo_62 rfl (lv_at hl 7 rfl) ?_
      refine lv_iload hx hb dL_isPartSo_63 (lv_at hl 3 rfl) ?_
      rcases bx_some hf with ⟨e65, hc, hf⟩ | ⟨r65, hc, hf⟩
      · exact nomatch hf
      try dsimp only at hf
      refine g_call0 (ws' := (w_0_1_2_5_6 q cI cJ cD Tn Ta Ba41)) (st1 := [.int r65]) hq [0, 1, 2, 5, 6] [0, 1, 2] [.inl 0, .inl 1, .inl 2, .inr 3, .inr 4] (va_runV (As := [.int p1, .int p2, .int r7]) (rest := []) ⟨hx, hb, hml, hown, hts⟩ (kX8_isPeriod l D cI cJ cD q hq N Tn Ta p1 p2 r7 r65 hc) (cwV 3 hts gL_isPartSo_X8_isPeriod rfl rfl rfl (by decide +kernel) ⟨(Nat.le_of_ble_eq_true rfl), (Nat.le_of_ble_eq_true rfl)⟩) ⟨gP_blind, va_recv hE.1 hP (ci := 6) (q0 := 0) rfl rfl, fun U hU hW => ⟨rfl, by rw [hU]; exact hP.sub (ws' := (w_0_1_2 q cI cJ cD Tn Ta)) [0, 1, 2] rfl, gEv.warm hW hE⟩⟩ rfl rfl hl.1 rfl (lv_room (Nat.le_of_ble_eq_true rfl)) dL_isPartSo_65 ⟨Nat.zero_le _, Nat.zero_le _⟩) hP hS (gSub rfl) rfl rfl rfl rfl rfl (fun H locs hP hS => ?_)
      refine lv_if_eq (tgt := 104) hx hb dL_isPartSo_68 (by decide) (fun c_31 => ?_) (fun c_31 => ?_)
      · have hf := (if_pos c_31).symm.trans hf
        exact J104 Ba41 p1 p2 (p2 - p1) r7 r15 r23 r31 hf _ _ hP hS _ (lv_sub hl [5, 6, 7, 4, 3, 2, 1, 0] rfl)
      · have hf := (if_neg c_31).symm.trans hf
        refine lv_aload_n hx hb dL_isPartSo_71 rfl (lv_at hl 5 rfl) ?_
        refine lv_iload_n hx hb dL_isPartSo_72 rfl (lv_at hl 6 rfl) ?_
        refine lv_iload_n hx hb dL_isPartSo_73 rfl (lv_at hl 7 rfl) ?_
        refine lv_iload_n hx hb dL_isPartSo_74 rfl (lv_at hl 4 rfl) ?_
        rcases bx_some hf with ⟨e75, hc, hf⟩ | ⟨r75, hc, hf⟩
        · exact nomatch hf
        try dsimp only at hf
        refine g_call0 (ws' := (w_0_1_2_5_6 q cI cJ cD Tn Ta Ba41)) (st1 := [.int r75]) hq [0, 1, 2, 5, 6] [0, 1, 2] [.inl 0, .inl 1, .inl 2, .inr 3, .inr 4] (va_runV (As := [.int p1, .int p2, .int (p2 - p1)]) (rest := []) ⟨hx, hb, hml, hown, hts⟩ (kX8_isPeriod l D cI cJ cD q hq N Tn Ta p1 p2 (p2 - p1) r75 hc) (cwV 3 hts gL_isPartSo_X8_isPeriod rfl rfl rfl (by decide +kernel) ⟨(Nat.le_of_ble_eq_true rfl), (Nat.le_of_ble_eq_true rfl)⟩) ⟨gP_blind, va_recv hE.1 hP (ci := 6) (q0 := 0) rfl rfl, fun U hU hW => ⟨rfl, by rw [hU]; exact hP.sub (ws' := (w_0_1_2 q cI cJ cD Tn Ta)) [0, 1, 2] rfl, gEv.warm hW hE⟩⟩ rfl rfl hl.1 rfl (lv_room (Nat.le_of_ble_eq_true rfl)) dL_isPartSo_75 ⟨Nat.zero_le _, Nat.zero_le _⟩) hP hS (gSub rfl) rfl rfl rfl rfl rfl (fun H locs hP hS => ?_)
        refine lv_if_eq (tgt := 104) hx hb dL_isPartSo_78 (by decide) (fun c_32 => ?_) (fun c_32 => ?_)
        · have hf := (if_pos c_32).symm.trans hf
          exact J104 Ba41 p1 p2 (p2 - p1) r7 r15 r23 r31 hf _ _ hP hS _ (lv_sub hl [5, 6, 7, 4, 3, 2, 1, 0] rfl)
        · have hf := (if_neg c_32).symm.trans hf
          refine lv_iload hx hb dL_isPartSo_81 (lv_at hl 3 rfl) ?_
          refine lv_iconst (v := (1 : Int32)) hx hb dL_isPartSo_83 (by decide) ?_
          refine lv_icmp_eq (tgt := 100) hx hb dL_isPartSo_84 (by decide) (fun c_33 => ?_) (fun c_33 => ?_)
          · have hf := (if_pos c_33).symm.trans hf
            exact J100 Ba41 p1 p2 (p2 - p1) r7 r15 r23 r31 hf _ _ hP hS _ (lv_sub hl [5, 6, 7, 4, 3, 2, 1, 0] rfl)
          · have hf := (if_neg c_33).symm.trans hf
            refine lv_aload_n hx hb dL_isPartSo_87 rfl (lv_at hl 5 rfl) ?_
            refine lv_iload_n hx hb dL_isPartSo_88 rfl (lv_at hl 6 rfl) ?_
            refine lv_iload_n hx hb dL_isPartSo_89 rfl (lv_at hl 7 rfl) ?_
            refine lv_iload hx hb dL_isPartSo_90 (lv_at hl 3 rfl) ?_
            refine lv_iconst (v := (1 : Int32)) hx hb dL_isPartSo_92 (by decide) ?_
            refine lv_isub hx hb dL_isPartSo_93 ?_
            rcases bx_some hf with ⟨e94, hc, hf⟩ | ⟨r94, hc, hf⟩
            · exact nomatch hf
            try dsimp only at hf
            refine g_call0 (ws' := (w_0_1_2_5_6 q cI cJ cD Tn Ta Ba41)) (st1 := [.int r94]) hq [0, 1, 2, 5, 6] [0, 1, 2] [.inl 0, .inl 1, .inl 2, .inr 3, .inr 4] (va_runV (As := [.int p1, .int p2, .int (r7 - (1 : Int32))]) (rest := []) ⟨hx, hb, hml, hown, hts⟩ (kX8_isPeriod l D cI cJ cD q hq N Tn Ta p1 p2 (r7 - (1 : Int32)) r94 hc) (cwV 3 hts gL_isPartSo_X8_isPeriod rfl rfl rfl (by decide +kernel) ⟨(Nat.le_of_ble_eq_true rfl), (Nat.le_of_ble_eq_true rfl)⟩) ⟨gP_blind, va_recv hE.1 hP (ci := 6) (q0 := 0) rfl rfl, fun U hU hW => ⟨rfl, by rw [hU]; exact hP.sub (ws' := (w_0_1_2 q cI cJ cD Tn Ta)) [0, 1, 2] rfl, gEv.warm hW hE⟩⟩ rfl rfl hl.1 rfl (lv_room (Nat.le_of_ble_eq_true rfl)) dL_isPartSo_94 ⟨Nat.zero_le _, Nat.zero_le _⟩) hP hS (gSub rfl) rfl rfl rfl rfl rfl (fun H locs hP hS => ?_)
            refine lv_if_ne (tgt := 104) hx hb dL_isPartSo_97 (by decide) (fun c_34 => ?_) (fun c_34 => ?_)
            · have hf := (if_neg c_34).symm.trans hf
              exact J104 Ba41 p1 p2 (p2 - p1) r7 r15 r23 r31 hf _ _ hP hS _ (lv_sub hl [5, 6, 7, 4, 3, 2, 1, 0] rfl)
            · have hf := (if_pos c_34).symm.trans hf
              exact J100 Ba41 p1 p2 (p2 - p1) r7 r15 r23 r31 hf _ _ hP hS _ (lv_sub hl [5, 6, 7, 4, 3, 2, 1, 0] rfl)
set_option maxHeartbeats 4000000 in
set_option maxRecDepth 100000 in
theorem kL_areSuffixesSo (l : Launch) (D : va_G) (cI cJ cD : ClassId) (q : Nat → Nat) (hq : gInj 14 q) (N : Nat) (Tn : Int32) (Ta : (Nat → Int32)) (Fn : Int32) (Fa : (Nat → Int32)) (Ua : (Nat → Int32)) (r0 : Int32) (Fn9 : Int32) (Fa9 : (Nat → Int32)) (Ua9 : (Nat → Int32)) (hf : fL_areSuffixesSo N Tn Ta Fn Fa Ua = some (r0, Fn9, Fa9, Ua9)) : Met l yL_areSuffixesSo wsL_areSuffixesSo rL_areSuffixesSo (gP D cI cJ cD [.ref (q 0)] (w_0_1_2_3_4_11_12 q cI cJ cD Tn Ta Fn Fa Ua)) (gQ D (some (.int r0)) (w_0_1_2_3_4_11_12 q cI cJ cD Tn Ta Fn9 Fa9 Ua9) (gA q [0, 1, 2, 3, 4, 11, 12])) 0 0 (gA q [0, 1, 2, 3, 4, 11, 12]) := by
  refine Met.ofW (cc := cL_areSuffixesSo) (maxL := 5) (ret := (some .boolean)) (by decide +kernel) rfl ?_
  intro p e s m args below meth c s₁ B hml hv
  obtain ⟨rfl, hP, hE⟩ := hv
  have hx := B.exec
  have hb := B.bytes
  have hr := B.returns
  have hts := atoms_spec (ws := wsL_areSuffixesSo) B.pre
  have hown : s.vm.findClass RL = some m.cls := findClass_of_methodNamed B.named
  have hlocks := B.notSynchronized
  have hS : va_S (gA q [0, 1, 2, 3, 4, 11, 12]) s.heap s.heap [] := va_S.rf
  have hl := lv_entry ([.ref (q 0)]) (n := 5) (Nat.le_of_ble_eq_true rfl)
  rw [lg_entry_eq]
  generalize (lg_sl ([.ref (q 0)]) ++ List.replicate (5 - (lg_sl ([.ref (q 0)])).length) Slot.unset).toArray = ls at hl ⊢
  have hl : lv_has ls 5 [(0, .ref (q 0))] := hl
  have J100 : ∀ (Fn : Int32) (Fa : (Nat → Int32)) (Ua : (Nat → Int32)) (y0 : Int32), fL_areSuffixesSo_J100 N Tn Ta Fn Fa Ua y0 = some (r0, Fn9, Fa9, Ua9) → ∀ (H : Heap) (locs : List Loc), va_P D vwCl (w_0_1_2_3_4_11_12 q cI cJ cD Tn Ta Fn Fa Ua) H → va_S (gA q [0, 1, 2, 3, 4, 11, 12]) s.heap H locs → ∀ ls : Array Slot, lv_has ls 5 [] → W p l e (headSpec wsL_areSuffixesSo rL_areSuffixesSo).room s m ([.ref (q 0)] : List Value).toArray below meth c H locs 0 0 (MQ below (gQ D (some (.int r0)) (w_0_1_2_3_4_11_12 q cI cJ cD Tn Ta Fn9 Fa9 Ua9) (gA q [0, 1, 2, 3, 4, 11, 12])) ([.ref (q 0)] : List Value).toArray s 0 0 (gA q [0, 1, 2, 3, 4, 11, 12])) (F0 m 100 ls [.int y0]) := by
    intro Fn Fa Ua y0 hf H locs hP hS ls hl
    unfold fL_areSuffixesSo_J100 at hf
    obtain ⟨g_1, hf⟩ := gd_some hf
    cases hf
    exact W.zret (ty := .boolean) hx hb hr (isB_nar g_1) (fun t ht hW => ⟨⟨rfl, by rw [ht]; exact hP⟩, hS.F ht⟩) hS.2.2 dL_areSuffixesSo_100
  have J99 : ∀ (Fn : Int32) (Fa : (Nat → Int32)) (Ua : (Nat → Int32)), fL_areSuffixesSo_J99 N Tn Ta Fn Fa Ua = some (r0, Fn9, Fa9, Ua9) → ∀ (H : Heap) (locs : List Loc), va_P D vwCl (w_0_1_2_3_4_11_12 q cI cJ cD Tn Ta Fn Fa Ua) H → va_S (gA q [0, 1, 2, 3, 4, 11, 12]) s.heap H locs → ∀ ls : Array Slot, lv_has ls 5 [] → W p l e (headSpec wsL_areSuffixesSo rL_areSuffixesSo).room s m ([.ref (q 0)] : List Value).toArray below meth c H locs 0 0 (MQ below (gQ D (some (.int r0)) (w_0_1_2_3_4_11_12 q cI cJ cD Tn Ta Fn9 Fa9 Ua9) (gA q [0, 1, 2, 3, 4, 11, 12])) ([.ref (q 0)] : List Value).toArray s 0 0 (gA q [0, 1, 2, 3, 4, 11, 12])) (F0 m 99 ls []) := by
    intro Fn Fa Ua hf H locs hP hS ls hl
    unfold fL_areSuffixesSo_J99 at hf
    refine lv_iconst (v := (0 : Int32)) hx hb dL_areSuffixesSo_99 (by decide) ?_
    exact J100 Fn Fa Ua (0 : Int32) hf _ _ hP hS _ (lv_sub hl [] rfl)
  have J95 : ∀ (Fn : Int32) (Fa : (Nat → Int32)) (Ua : (Nat → Int32)), fL_areSuffixesSo_J95 N Tn Ta Fn Fa Ua = some (r0, Fn9, Fa9, Ua9) → ∀ (H : Heap) (locs : List Loc), va_P D vwCl (w_0_1_2_3_4_11_12 q cI cJ cD Tn Ta Fn Fa Ua) H → va_S (gA q [0, 1, 2, 3, 4, 11, 12]) s.heap H locs → ∀ ls : Array Slot, lv_has ls 5 [] → W p l e (headSpec wsL_areSuffixesSo rL_areSuffixesSo).room s m ([.ref (q 0)] : List Value).toArray below meth c H locs 0 0 (MQ below (gQ D (some (.int r0)) (w_0_1_2_3_4_11_12 q cI cJ cD Tn Ta Fn9 Fa9 Ua9) (gA q [0, 1, 2, 3, 4, 11, 12])) ([.ref (q 0)] : List Value).toArray s 0 0 (gA q [0, 1, 2, 3, 4, 11, 12])) (F0 m 95 ls []) := by
    intro Fn Fa Ua hf H locs hP hS ls hl
    unfold fL_areSuffixesSo_J95 at hf
    refine lv_iconst (v := (1 : Int32)) hx hb dL_areSuffixesSo_95 (by decide) ?_
    refine lv_goto (tgt := 100) hx hb dL_areSuffixesSo_96 (by decide) ?_
    exact J100 Fn Fa Ua (1 : Int32) hf _ _ hP hS _ (lv_sub hl [] rfl)
  have J69 : ∀ (Fn : Int32) (Fa : (Nat → Int32)) (Ua : (Nat → Int32)) (x1 : Int32) (x2 : Int32), fL_areSuffixesSo_J69 N Tn Ta Fn Fa Ua x1 x2 = some (r0, Fn9, Fa9, Ua9) → ∀ (H : Heap) (locs : List Loc), va_P D vwCl (w_0_1_2_3_4_11_12 q cI cJ cD Tn Ta Fn Fa Ua) H → va_S (gA q [0, 1, 2, 3, 4, 11, 12]) s.heap H locs → ∀ ls : Array Slot, lv_has ls 5 [(0, .ref (q 0)), (1, .int x1), (2, .int x2)] → W p l e (headSpec wsL_areSuffixesSo rL_areSuffixesSo).room s m ([.ref (q 0)] : List Value).toArray below meth c H locs 0 0 (MQ below (gQ D (some (.int r0)) (w_0_1_2_3_4_11_12 q cI cJ cD Tn Ta Fn9 Fa9 Ua9) (gA q [0, 1, 2, 3, 4, 11, 12])) ([.ref (q 0)] : List Value).toArray s 0 0 (gA q [0, 1, 2, 3, 4, 11, 12])) (F0 m 69 ls []) := by
    intro Fn Fa Ua x1 x2 hf H locs hP hS ls hl
    unfold fL_areSuffixesSo_J69 at hf
    refine lv_iload_n hx hb dL_areSuffixesSo_69 rfl (lv_at hl 2 rfl) ?_
    refine lv_if_eq (tgt := 99) hx hb dL_areSuffixesSo_70 (by decide) (fun c_2 => ?_) (fun c_2 => ?_)
    · have hf := (if_pos c_2).symm.trans hf
      exact J99 Fn Fa Ua hf _ _ hP hS _ (lv_sub hl [] rfl)
    · have hf := (if_neg c_2).symm.trans hf
      refine lv_iload_n hx hb dL_areSuffixesSo_73 rfl (lv_at hl 1 rfl) ?_
      refine lv_if_eq (tgt := 95) hx hb dL_areSuffixesSo_74 (by decide) (fun c_3 => ?_) (fun c_3 => ?_)
      · have hf := (if_pos c_3).symm.trans hf
        exact J95 Fn Fa Ua hf _ _ hP hS _ (lv_sub hl [] rfl)
      · have hf := (if_neg c_3).symm.trans hf
        refine lv_aload_n hx hb dL_areSuffixesSo_77 rfl (lv_at hl 0 rfl) ?_
        refine lv_iconst (v := (0 : Int32)) hx hb dL_areSuffixesSo_78 (by decide) ?_
        rcases bx_some hf with ⟨⟨e79, Ua79⟩, hc, hf⟩ | ⟨⟨r79, Ua79⟩, hc, hf⟩
        · exact nomatch hf
        try dsimp only at hf
        refine g_call0 (ws' := (w_0_1_2_3_4_11_12 q cI cJ cD Tn Ta Fn Fa Ua79)) (st1 := [.int r79]) hq [0, 1, 2, 3, 4, 11, 12] [0, 1, 2, 11, 12] [.inl 0, .inl 1, .inl 2, .inr 3, .inr 4, .inl 3, .inl 4] (va_runV (As := [.int (0 : Int32)]) (rest := []) ⟨hx, hb, hml, hown, hts⟩ (kX8_suffixAt l D cI cJ cD q hq N Tn Ta Ua (0 : Int32) r79 Ua79 hc) (cwV 1 hts gL_areSuffixesSo_X8_suffixAt rfl rfl rfl (by decide +kernel) ⟨(Nat.le_of_ble_eq_true rfl), (Nat.le_of_ble_eq_true rfl)⟩) ⟨gP_blind, va_recv hE.1 hP (ci := 6) (q0 := 0) rfl rfl, fun U hU hW => ⟨rfl, by rw [hU]; exact hP.sub (ws' := (w_0_1_2_11_12 q cI cJ cD Tn Ta Ua)) [0, 1, 2, 5, 6] rfl, gEv.warm hW hE⟩⟩ rfl rfl hl.1 rfl (lv_room (Nat.le_of_ble_eq_true rfl)) dL_areSuffixesSo_79 ⟨Nat.zero_le _, Nat.zero_le _⟩) hP hS (gSub rfl) rfl rfl rfl rfl rfl (fun H locs hP hS => ?_)
        refine lv_aload_n hx hb dL_areSuffixesSo_82 rfl (lv_at hl 0 rfl) ?_
        refine lv_aload_n hx hb dL_areSuffixesSo_83 rfl (lv_at hl 0 rfl) ?_
        obtain ⟨⟨r84, Fn84, Fa84⟩, hc, hf⟩ := bn_some hf
        try dsimp only at hf
        refine g_call0 (ws' := (w_0_1_2_3_4_11_12 q cI cJ cD Tn Ta Fn84 Fa84 Ua79)) (st1 := [.int r84, .ref (q 0), .int r79]) hq [0, 1, 2, 3, 4, 11, 12] [0, 1, 2, 3, 4] [.inl 0, .inl 1, .inl 2, .inl 3, .inl 4, .inr 5, .inr 6] (va_runV (As := []) (rest := [.ref (q 0), .int r79]) ⟨hx, hb, hml, hown, hts⟩ (kX8_factors l D cI cJ cD q hq N Tn Ta Fn Fa r84 Fn84 Fa84 hc) (cwV 0 hts gL_areSuffixesSo_X8_factors rfl rfl rfl (by decide +kernel) ⟨(Nat.le_of_ble_eq_true rfl), (Nat.le_of_ble_eq_true rfl)⟩) ⟨gP_blind, va_recv hE.1 hP (ci := 6) (q0 := 0) rfl rfl, fun U hU hW => ⟨rfl, by rw [hU]; exact hP.sub (ws' := (w_0_1_2_3_4 q cI cJ cD Tn Ta Fn Fa)) [0, 1, 2, 3, 4] rfl, gEv.warm hW hE⟩⟩ rfl rfl hl.1 rfl (lv_room (Nat.le_of_ble_eq_true rfl)) dL_areSuffixesSo_84 ⟨Nat.zero_le _, Nat.zero_le _⟩) hP hS (gSub rfl) rfl rfl rfl rfl rfl (fun H locs hP hS => ?_)
        refine lv_iconst (v := (1 : Int32)) hx hb dL_areSuffixesSo_87 (by decide) ?_
        refine lv_isub hx hb dL_areSuffixesSo_88 ?_
        rcases bx_some hf with ⟨⟨e89, Fn89, Fa89⟩, hc, hf⟩ | ⟨⟨r89, Fn89, Fa89⟩, hc, hf⟩
        · exact nomatch hf
        try dsimp only at hf
        refine g_call0 (ws' := (w_0_1_2_3_4_11_12 q cI cJ cD Tn Ta Fn89 Fa89 Ua79)) (st1 := [.int r89, .int r79]) hq [0, 1, 2, 3, 4, 11, 12] [0, 1, 2, 3, 4] [.inl 0, .inl 1, .inl 2, .inl 3, .inl 4, .inr 5, .inr 6] (va_runV (As := [.int (r84 - (1 : Int32))]) (rest := [.int r79]) ⟨hx, hb, hml, hown, hts⟩ (kX8_factorStart l D cI cJ cD q hq N Tn Ta Fn84 Fa84 (r84 - (1 : Int32)) r89 Fn89 Fa89 hc) (cwV 1 hts gL_areSuffixesSo_X8_factorStart rfl rfl rfl (by decide +kernel) ⟨(Nat.le_of_ble_eq_true rfl), (Nat.le_of_ble_eq_true rfl)⟩) ⟨gP_blind, va_recv hE.1 hP (ci := 6) (q0 := 0) rfl rfl, fun U hU hW => ⟨rfl, by rw [hU]; exact hP.sub (ws' := (w_0_1_2_3_4 q cI cJ cD Tn Ta Fn84 Fa84)) [0, 1, 2, 3, 4] rfl, gEv.warm hW hE⟩⟩ rfl rfl hl.1 rfl (lv_room (Nat.le_of_ble_eq_true rfl)) dL_areSuffixesSo_89 ⟨Nat.zero_le _, Nat.zero_le _⟩) hP hS (gSub rfl) rfl rfl rfl rfl rfl (fun H locs hP hS => ?_)
        refine lv_icmp_ne (tgt := 99) hx hb dL_areSuffixesSo_92 (by decide) (fun c_4 => ?_) (fun c_4 => ?_)
        · have hf := (if_neg c_4).symm.trans hf
          exact J99 Fn89 Fa89 Ua79 hf _ _ hP hS _ (lv_sub hl [] rfl)
        · have hf := (if_pos c_4).symm.trans hf
          exact J95 Fn89 Fa89 Ua79 hf _ _ hP hS _ (lv_sub hl [] rfl)
  have K9 : ∀ (n9 : Nat) (Fn : Int32) (Fa : (Nat → Int32)) (Ua : (Nat → Int32)) (x1 : Int32) (x2 : Int32) (x3 : Int32), fL_areSuffixesSo_H9 N Tn Ta n9 Fn Fa Ua x1 x2 x3 = some (r0, Fn9, Fa9, Ua9) → ∀ (H : Heap) (locs : List Loc), va_P D vwCl (w_0_1_2_3_4_11_12 q cI cJ cD Tn Ta Fn Fa Ua) H → va_S (gA q [0, 1, 2, 3, 4, 11, 12]) s.heap H locs → ∀ ls : Array Slot, lv_has ls 5 [(0, .ref (q 0)), (1, .int x1), (2, .int x2), (3, .int x3)] → W p l e (headSpec wsL_areSuffixesSo rL_areSuffixesSo).room s m ([.ref (q 0)] : List Value).toArray below meth c H locs 0 0 (MQ below (gQ D (some (.int r0)) (w_0_1_2_3_4_11_12 q cI cJ cD Tn Ta Fn9 Fa9 Ua9) (gA q [0, 1, 2, 3, 4, 11, 12])) ([.ref (q 0)] : List Value).toArray s 0 0 (gA q [0, 1, 2, 3, 4, 11, 12])) (F0 m 9 ls []) := by
    intro n9
    induction n9 with
    | zero =>
      intro Fn Fa Ua x1 x2 x3 hf
      exact nomatch (show (none : Option (Int32 × Int32 × (Nat → Int32) × (Nat → Int32))) = some (r0, Fn9, Fa9, Ua9) from hf)
    | succ n9 ih9 =>
      have J62 : ∀ (Fn : Int32) (Fa : (Nat → Int32)) (Ua : (Nat → Int32)) (x1 : Int32) (x3 : Int32) (y0 : Int32), fL_areSuffixesSo_J62 N Tn Ta (fL_areSuffixesSo_H9 N Tn Ta n9) Fn Fa Ua x1 x3 y0 = some (r0, Fn9, Fa9, Ua9) → ∀ (H : Heap) (locs : List Loc), va_P D vwCl (w_0_1_2_3_4_11_12 q cI cJ cD Tn Ta Fn Fa Ua) H → va_S (gA q [0, 1, 2, 3, 4, 11, 12]) s.heap H locs → ∀ ls : Array Slot, lv_has ls 5 [(0, .ref (q 0)), (1, .int x1), (3, .int x3)] → W p l e (headSpec wsL_areSuffixesSo rL_areSuffixesSo).room s m ([.ref (q 0)] : List Value).toArray below meth c H locs 0 0 (MQ below (gQ D (some (.int r0)) (w_0_1_2_3_4_11_12 q cI cJ cD Tn Ta Fn9 Fa9 Ua9) (gA q [0, 1, 2, 3, 4, 11, 12])) ([.ref (q 0)] : List Value).toArray s 0 0 (gA q [0, 1, 2, 3, 4, 11, 12])) (F0 m 62 ls [.int y0]) := by
        intro Fn Fa Ua x1 x3 y0 hf H locs hP hS ls hl
        unfold fL_areSuffixesSo_J62 at hf
        refine lv_istore_n (lv' := [(2, .int y0), (0, .ref (q 0)), (1, .int x1), (3, .int x3)]) hx hb dL_areSuffixesSo_62 rfl hl (by decide) rfl (fun ls hl => ?_)
        refine lv_iinc (v := (x3 + 1)) (lv' := [(3, .int (x3 + 1)), (2, .int y0), (0, .ref (q 0)), (1, .int x1)]) hx hb dL_areSuffixesSo_63 hl (k := 3) rfl rfl (by decide) rfl (fun ls hl => ?_)
        refine lv_goto (tgt := 9) hx hb dL_areSuffixesSo_66 (by decide) ?_
        exact ih9 Fn Fa Ua x1 y0 (x3 + 1) hf _ _ hP hS _ (lv_sub hl [2, 3, 1, 0] rfl)
      have J57 : ∀ (Fn : Int32) (Fa : (Nat → Int32)) (Ua : (Nat → Int32)) (x1 : Int32) (x3 : Int32), fL_areSuffixesSo_J57 N Tn Ta (fL_areSuffixesSo_H9 N Tn Ta n9) Fn Fa Ua x1 x3 = some (r0, Fn9, Fa9, Ua9) → ∀ (H : Heap) (locs : List Loc), va_P D vwCl (w_0_1_2_3_4_11_12 q cI cJ cD Tn Ta Fn Fa Ua) H → va_S (gA q [0, 1, 2, 3, 4, 11, 12]) s.heap H locs → ∀ ls : Array Slot, lv_has ls 5 [(0, .ref (q 0)), (1, .int x1), (3, .int x3)] → W p l e (headSpec wsL_areSuffixesSo rL_areSuffixesSo).room s m ([.ref (q 0)] : List Value).toArray below meth c H locs 0 0 (MQ below (gQ D (some (.int r0)) (w_0_1_2_3_4_11_12 q cI cJ cD Tn Ta Fn9 Fa9 Ua9) (gA q [0, 1, 2, 3, 4, 11, 12])) ([.ref (q 0)] : List Value).toArray s 0 0 (gA q [0, 1, 2, 3, 4, 11, 12])) (F0 m 57 ls []) := by
        intro Fn Fa Ua x1 x3 hf H locs hP hS ls hl
        unfold fL_areSuffixesSo_J57 at hf
        refine lv_iconst (v := (1 : Int32)) hx hb dL_areSuffixesSo_57 (by decide) ?_
        refine lv_goto (tgt := 62) hx hb dL_areSuffixesSo_58 (by decide) ?_
        exact J62 Fn Fa Ua x1 x3 (1 : Int32) hf _ _ hP hS _ (lv_sub hl [0, 1, 2] rfl)
      have J61 : ∀ (Fn : Int32) (Fa : (Nat → Int32)) (Ua : (Nat → Int32)) (x1 : Int32) (x3 : Int32), fL_areSuffixesSo_J61 N Tn Ta (fL_areSuffixesSo_H9 N Tn Ta n9) Fn Fa Ua x1 x3 = some (r0, Fn9, Fa9, Ua9) → ∀ (H : Heap) (locs : List Loc), va_P D vwCl (w_0_1_2_3_4_11_12 q cI cJ cD Tn Ta Fn Fa Ua) H → va_S (gA q [0, 1, 2, 3, 4, 11, 12]) s.heap H locs → ∀ ls : Array Slot, lv_has ls 5 [(0, .ref (q 0)), (1, .int x1), (3, .int x3)] → W p l e (headSpec wsL_areSuffixesSo rL_areSuffixesSo).room s m ([.ref (q 0)] : List Value).toArray below meth c H locs 0 0 (MQ below (gQ D (some (.int r0)) (w_0_1_2_3_4_11_12 q cI cJ cD Tn Ta Fn9 Fa9 Ua9) (gA q [0, 1, 2, 3, 4, 11, 12])) ([.ref (q 0)] : List Value).toArray s 0 0 (gA q [0, 1, 2, 3, 4, 11, 12])) (F0 m 61 ls []) := by
        intro Fn Fa Ua x1 x3 hf H locs hP hS ls hl
        unfold fL_areSuffixesSo_J61 at hf
        refine lv_iconst (v := (0 : Int32)) hx hb dL_areSuffixesSo_61 (by decide) ?_
        exact J62 Fn Fa Ua x1 x3 (0 : Int32) hf _ _ hP hS _ (lv_sub hl [0, 1, 2] rfl)
      intro Fn Fa Ua x1 x2 x3 hf H locs hP hS ls hl
      have hf : fL_areSuffixesSo_B9 N Tn Ta (fL_areSuffixesSo_H9 N Tn Ta n9) Fn Fa Ua x1 x2 x3 = some (r0, Fn9, Fa9, Ua9) := hf
      unfold fL_areSuffixesSo_B9 at hf
      refine lv_iload_n hx hb dL_areSuffixesSo_9 rfl (lv_at hl 3 rfl) ?_
      refine lv_iload_n hx hb dL_areSuffixesSo_10 rfl (lv_at hl 1 rfl) ?_
      refine lv_icmp_ge (tgt := 69) hx hb dL_areSuffixesSo_11 (by decide) (fun c_5 => ?_) (fun c_5 => ?_)
      · have hf := (if_pos c_5).symm.trans hf
        exact J69 Fn Fa Ua x1 x2 hf _ _ hP hS _ (lv_sub hl [0, 1, 2] rfl)
      · have hf := (if_neg c_5).symm.trans hf
        refine lv_iload_n hx hb dL_areSuffixesSo_14 rfl (lv_at hl 2 rfl) ?_
        refine lv_if_eq (tgt := 69) hx hb dL_areSuffixesSo_15 (by decide) (fun c_6 => ?_) (fun c_6 => ?_)
        · have hf := (if_pos c_6).symm.trans hf
          exact J69 Fn Fa Ua x1 x2 hf _ _ hP hS _ (lv_sub hl [0, 1, 2] rfl)
        · have hf := (if_neg c_6).symm.trans hf
          refine lv_aload_n hx hb dL_areSuffixesSo_18 rfl (lv_at hl 0 rfl) ?_
          refine lv_iload_n hx hb dL_areSuffixesSo_19 rfl (lv_at hl 3 rfl) ?_
          rcases bx_some hf with ⟨⟨e20, Ua20⟩, hc, hf⟩ | ⟨⟨r20, Ua20⟩, hc, hf⟩
          · exact nomatch hf
          try dsimp only at hf
          refine g_call0 (ws' := (w_0_1_2_3_4_11_12 q cI cJ cD Tn Ta Fn Fa Ua20)) (st1 := [.int r20]) hq [0, 1, 2, 3, 4, 11, 12] [0, 1, 2, 11, 12] [.inl 0, .inl 1, .inl 2, .inr 3, .inr 4, .inl 3, .inl 4] (va_runV (As := [.int x3]) (rest := []) ⟨hx, hb, hml, hown, hts⟩ (kX8_suffixAt l D cI cJ cD q hq N Tn Ta Ua x3 r20 Ua20 hc) (cwV 1 hts gL_areSuffixesSo_X8_suffixAt rfl rfl rfl (by decide +kernel) ⟨(Nat.le_of_ble_eq_true rfl), (Nat.le_of_ble_eq_true rfl)⟩) ⟨gP_blind, va_recv hE.1 hP (ci := 6) (q0 := 0) rfl rfl, fun U hU hW => ⟨rfl, by rw [hU]; exact hP.sub (ws' := (w_0_1_2_11_12 q cI cJ cD Tn Ta Ua)) [0, 1, 2, 5, 6] rfl, gEv.warm hW hE⟩⟩ rfl rfl hl.1 rfl (lv_room (Nat.le_of_ble_eq_true rfl)) dL_areSuffixesSo_20 ⟨Nat.zero_le _, Nat.zero_le _⟩) hP hS (gSub rfl) rfl rfl rfl rfl rfl (fun H locs hP hS => ?_)
          refine lv_istore (lv' := [(4, .int r20), (0, .ref (q 0)), (1, .int x1), (2, .int x2), (3, .int x3)]) hx hb dL_areSuffixesSo_23 hl (by decide) rfl (fun ls hl => ?_)
          refine lv_aload_n hx hb dL_areSuffixesSo_25 rfl (lv_at hl 1 rfl) ?_
          refine lv_iload hx hb dL_areSuffixesSo_26 (lv_at hl 0 rfl) ?_
          rcases bx_some hf with ⟨⟨e28, Ua28⟩, hc, hf⟩ | ⟨⟨r28, Ua28⟩, hc, hf⟩
          · exact nomatch hf
          try dsimp only at hf
          refine g_call0 (ws' := (w_0_1_2_3_4_11_12 q cI cJ cD Tn Ta Fn Fa Ua28)) (st1 := [.int r28]) hq [0, 1, 2, 3, 4, 11, 12] [0, 1, 2, 11, 12] [.inl 0, .inl 1, .inl 2, .inr 3, .inr 4, .inl 3, .inl 4] (va_runV (As := [.int r20]) (rest := []) ⟨hx, hb, hml, hown, hts⟩ (kX8_rankOf l D cI cJ cD q hq N Tn Ta Ua20 r20 r28 Ua28 hc) (cwV 1 hts gL_areSuffixesSo_X8_rankOf rfl rfl rfl (by decide +kernel) ⟨(Nat.le_of_ble_eq_true rfl), (Nat.le_of_ble_eq_true rfl)⟩) ⟨gP_blind, va_recv hE.1 hP (ci := 6) (q0 := 0) rfl rfl, fun U hU hW => ⟨rfl, by rw [hU]; exact hP.sub (ws' := (w_0_1_2_11_12 q cI cJ cD Tn Ta Ua20)) [0, 1, 2, 5, 6] rfl, gEv.warm hW hE⟩⟩ rfl rfl hl.1 rfl (lv_room (Nat.le_of_ble_eq_true rfl)) dL_areSuffixesSo_28 ⟨Nat.zero_le _, Nat.zero_le _⟩) hP hS (gSub rfl) rfl rfl rfl rfl rfl (fun H locs hP hS => ?_)
          refine lv_iload_n hx hb dL_areSuffixesSo_31 rfl (lv_at hl 4 rfl) ?_
          refine lv_icmp_ne (tgt := 61) hx hb dL_areSuffixesSo_32 (by decide) (fun c_7 => ?_) (fun c_7 => ?_)
          · have hf := (if_neg c_7).symm.trans hf
            exact J61 Fn Fa Ua28 x1 x3 hf _ _ hP hS _ (lv_sub hl [1, 2, 4] rfl)
          · have hf := (if_pos c_7).symm.trans hf
            refine lv_iload_n hx hb dL_areSuffixesSo_35 rfl (lv_at hl 4 rfl) ?_
            refine lv_if_eq (tgt := 57) hx hb dL_areSuffixesSo_36 (by decide) (fun c_8 => ?_) (fun c_8 => ?_)
            · have hf := (if_pos c_8).symm.trans hf
              exact J57 Fn Fa Ua28 x1 x3 hf _ _ hP hS _ (lv_sub hl [1, 2, 4] rfl)
            · have hf := (if_neg c_8).symm.trans hf
              refine lv_aload_n hx hb dL_areSuffixesSo_39 rfl (lv_at hl 1 rfl) ?_
              refine lv_aload_n hx hb dL_areSuffixesSo_40 rfl (lv_at hl 1 rfl) ?_
              refine lv_iload_n hx hb dL_areSuffixesSo_41 rfl (lv_at hl 4 rfl) ?_
              refine lv_iconst (v := (1 : Int32)) hx hb dL_areSuffixesSo_42 (by decide) ?_
              refine lv_isub hx hb dL_areSuffixesSo_43 ?_
              rcases bx_some hf with ⟨⟨e44, Ua44⟩, hc, hf⟩ | ⟨⟨r44, Ua44⟩, hc, hf⟩
              · exact nomatch hf
              try dsimp only at hf
              refine g_call0 (ws' := (w_0_1_2_3_4_11_12 q cI cJ cD Tn Ta Fn Fa Ua44)) (st1 := [.int r44, .ref (q 0)]) hq [0, 1, 2, 3, 4, 11, 12] [0, 1, 2, 11, 12] [.inl 0, .inl 1, .inl 2, .inr 3, .inr 4, .inl 3, .inl 4] (va_runV (As := [.int (x3 - (1 : Int32))]) (rest := [.ref (q 0)]) ⟨hx, hb, hml, hown, hts⟩ (kX8_suffixAt l D cI cJ cD q hq N Tn Ta Ua28 (x3 - (1 : Int32)) r44 Ua44 hc) (cwV 1 hts gL_areSuffixesSo_X8_suffixAt rfl rfl rfl (by decide +kernel) ⟨(Nat.le_of_ble_eq_true rfl), (Nat.le_of_ble_eq_true rfl)⟩) ⟨gP_blind, va_recv hE.1 hP (ci := 6) (q0 := 0) rfl rfl, fun U hU hW => ⟨rfl, by rw [hU]; exact hP.sub (ws' := (w_0_1_2_11_12 q cI cJ cD Tn Ta Ua28)) [0, 1, 2, 5, 6] rfl, gEv.warm hW hE⟩⟩ rfl rfl hl.1 rfl (lv_room (Nat.le_of_ble_eq_true rfl)) dL_areSuffixesSo_44 ⟨Nat.zero_le _, Nat.zero_le _⟩) hP hS (gSub rfl) rfl rfl rfl rfl rfl (fun H locs hP hS => ?_)
              refine lv_iload_n hx hb dL_areSuffixesSo_47 rfl (lv_at hl 2 rfl) ?_
              refine lv_iload hx hb dL_areSuffixesSo_48 (lv_at hl 0 rfl) ?_
              refine lv_iload_n hx hb dL_areSuffixesSo_50 rfl (lv_at hl 2 rfl) ?_
              rcases bx_some hf with ⟨e51, hc, hf⟩ | ⟨r51, hc, hf⟩
              · exact nomatch hf
              try dsimp only at hf
              refine g_call0 (ws' := (w_0_1_2_3_4_11_12 q cI cJ cD Tn Ta Fn Fa Ua44)) (st1 := [.int r51]) hq [0, 1, 2, 3, 4, 11, 12] [0, 1, 2] [.inl 0, .inl 1, .inl 2, .inr 3, .inr 4, .inr 5, .inr 6] (va_runV (As := [.int r44, .int x1, .int r20, .int x1]) (rest := []) ⟨hx, hb, hml, hown, hts⟩ (kX8_compare l D cI cJ cD q hq N Tn Ta r44 x1 r20 x1 r51 hc) (cwV 4 hts gL_areSuffixesSo_X8_compare rfl rfl rfl (by decide +kernel) ⟨(Nat.le_of_ble_eq_true rfl), (Nat.le_of_ble_eq_true rfl)⟩) ⟨gP_blind, va_recv hE.1 hP (ci := 6) (q0 := 0) rfl rfl, fun U hU hW => ⟨rfl, by rw [hU]; exact hP.sub (ws' := (w_0_1_2 q cI cJ cD Tn Ta)) [0, 1, 2] rfl, gEv.warm hW hE⟩⟩ rfl rfl hl.1 rfl (lv_room (Nat.le_of_ble_eq_true rfl)) dL_areSuffixesSo_51 ⟨Nat.zero_le _, Nat.zero_le _⟩) hP hS (gSub rfl) rfl rfl rfl rfl rfl (fun H locs hP hS => ?_)
              refine lv_if_ge (tgt := 61) hx hb dL_areSuffixesSo_54 (by decide) (fun c_9 => ?_) (fun c_9 => ?_)
              · have hf := (if_pos c_9).symm.trans hf
                exact J61 Fn Fa Ua44 x1 x3 hf _ _ hP hS _ (lv_sub hl [1, 2, 4] rfl)
              · have hf := (if_neg c_9).symm.trans hf
                exact J57 Fn Fa Ua44 x1 x3 hf _ _ hP hS _ (lv_sub hl [1, 2, 4] rfl)
  unfold fL_areSuffixesSo at hf
  refine lv_aload_n hx hb dL_areSuffixesSo_0 rfl (lv_at hl 0 rfl) ?_
  obtain ⟨r1, hc, hf⟩ := bn_some hf
  try dsimp only at hf
  refine g_call0 (ws' := (w_0_1_2_3_4_11_12 q cI cJ cD Tn Ta Fn Fa Ua)) (st1 := [.int r1]) hq [0, 1, 2, 3, 4, 11, 12] [0, 1] [.inl 0, .inl 1, .inr 2, .inr 3, .inr 4, .inr 5, .inr 6] (va_runV (As := []) (rest := []) ⟨hx, hb, hml, hown, hts⟩ (kX8_length l D cI cJ cD q hq N Tn r1 hc) (cwV 0 hts gL_areSuffixesSo_X8_length rfl rfl rfl (by decide +kernel) ⟨(Nat.le_of_ble_eq_true rfl), (Nat.le_of_ble_eq_true rfl)⟩) ⟨gP_blind, va_recv hE.1 hP (ci := 6) (q0 := 0) rfl rfl, fun U hU hW => ⟨rfl, by rw [hU]; exact hP.sub (ws' := (w_0_1 q cI cJ cD Tn)) [0, 1] rfl, gEv.warm hW hE⟩⟩ rfl rfl hl.1 rfl (lv_room (Nat.le_of_ble_eq_true rfl)) dL_areSuffixesSo_1 ⟨Nat.zero_le _, Nat.zero_le _⟩) hP hS (gSub rfl) rfl rfl rfl rfl rfl (fun H locs hP hS => ?_)
  refine lv_istore_n (lv' := [(1, .int r1), (0, .ref (q 0))]) hx hb dL_areSuffixesSo_4 rfl hl (by decide) rfl (fun ls hl => ?_)
  refine lv_iconst (v := (1 : Int32)) hx hb dL_areSuffixesSo_5 (by decide) ?_
  refine lv_istore_n (lv' := [(2, .int (1 : Int32)), (1, .int r1), (0, .ref (q 0))]) hx hb dL_areSuffixesSo_6 rfl hl (by decide) rfl (fun ls hl => ?_)
  refine lv_iconst (v := (0 : Int32)) hx hb dL_areSuffixesSo_7 (by decide) ?_
  refine lv_istore_n (lv' := [(3, .int (0 : Int32)), (2, .int (1 : Int32)), (1, .int r1), (0, .ref (q 0))]) hx hb dL_areSuffixesSo_8 rfl hl (by decide) rfl (fun ls hl => ?_)
  exact K9 N Fn Fa Ua r1 (1 : Int32) (0 : Int32) hf _ _ hP hS _ (lv_sub hl [3, 2, 1, 0] rfl)
set_option maxHeartbeats 4000000 in
set_option maxRecDepth 100000 in
theorem kL_areRunsSo (l : Launch) (D : va_G) (cI cJ cD : ClassId) (q : Nat → Nat) (hq : gInj 14 q) (N : Nat) (Tn : Int32) (Ta : (Nat → Int32)) (Ba : (Nat → Int32)) (Rn : Int32) (Ra : (Nat → Int32)) (Rb : (Nat → Int32)) (Rd : (Nat → Int32)) (r0 : Int32) (Ba9 : (Nat → Int32)) (Rn9 : Int32) (Ra9 : (Nat → Int32)) (Rb9 : (Nat → Int32)) (Rd9 : (Nat → Int32)) (hf : fL_areRunsSo N Tn Ta Ba Rn Ra Rb Rd = some (r0, Ba9, Rn9, Ra9, Rb9, Rd9)) : Met l yL_areRunsSo wsL_areRunsSo rL_areRunsSo (gP D cI cJ cD [.ref (q 0)] (w_0_1_2_5_6_7_8_9_10 q cI cJ cD Tn Ta Ba Rn Ra Rb Rd)) (gQ D (some (.int r0)) (w_0_1_2_5_6_7_8_9_10 q cI cJ cD Tn Ta Ba9 Rn9 Ra9 Rb9 Rd9) (gA q [0, 1, 2, 5, 6, 7, 8, 9, 10])) 0 0 (gA q [0, 1, 2, 5, 6, 7, 8, 9, 10]) := by
  refine Met.ofW (cc := cL_areRunsSo) (maxL := 7) (ret := (some .boolean)) (by decide +kernel) rfl ?_
  intro p e s m args below meth c s₁ B hml hv
  obtain ⟨rfl, hP, hE⟩ := hv
  have hx := B.exec
  have hb := B.bytes
  have hr := B.returns
  have hts := atoms_spec (ws := wsL_areRunsSo) B.pre
  have hown : s.vm.findClass RL = some m.cls := findClass_of_methodNamed B.named
  have hlocks := B.notSynchronized
  have hS : va_S (gA q [0, 1, 2, 5, 6, 7, 8, 9, 10]) s.heap s.heap [] := va_S.rf
  have hl := lv_entry ([.ref (q 0)]) (n := 7) (Nat.le_of_ble_eq_true rfl)
  rw [lg_entry_eq]
  generalize (lg_sl ([.ref (q 0)]) ++ List.replicate (7 - (lg_sl ([.ref (q 0)])).length) Slot.unset).toArray = ls at hl ⊢
  have hl : lv_has ls 7 [(0, .ref (q 0))] := hl
  have J226 : ∀ (Ba : (Nat → Int32)) (Rn : Int32) (Ra : (Nat → Int32)) (Rb : (Nat → Int32)) (Rd : (Nat → Int32)) (y0 : Int32), fL_areRunsSo_J226 N Tn Ta Ba Rn Ra Rb Rd y0 = some (r0, Ba9, Rn9, Ra9, Rb9, Rd9) → ∀ (H : Heap) (locs : List Loc), va_P D vwCl (w_0_1_2_5_6_7_8_9_10 q cI cJ cD Tn Ta Ba Rn Ra Rb Rd) H → va_S (gA q [0, 1, 2, 5, 6, 7, 8, 9, 10]) s.heap H locs → ∀ ls : Array Slot, lv_has ls 7 [] → W p l e (headSpec wsL_areRunsSo rL_areRunsSo).room s m ([.ref (q 0)] : List Value).toArray below meth c H locs 0 0 (MQ below (gQ D (some (.int r0)) (w_0_1_2_5_6_7_8_9_10 q cI cJ cD Tn Ta Ba9 Rn9 Ra9 Rb9 Rd9) (gA q [0, 1, 2, 5, 6, 7, 8, 9, 10])) ([.ref (q 0)] : List Value).toArray s 0 0 (gA q [0, 1, 2, 5, 6, 7, 8, 9, 10])) (F0 m 226 ls [.int y0]) := by
    intro Ba Rn Ra Rb Rd y0 hf H locs hP hS ls hl
    unfold fL_areRunsSo_J226 at hf
    obtain ⟨g_1, hf⟩ := gd_some hf
    cases hf
    exact W.zret (ty := .boolean) hx hb hr (isB_nar g_1) (fun t ht hW => ⟨⟨rfl, by rw [ht]; exact hP⟩, hS.F ht⟩) hS.2.2 dL_areRunsSo_226
  have J225 : ∀ (Ba : (Nat → Int32)) (Rn : Int32) (Ra : (Nat → Int32)) (Rb : (Nat → Int32)) (Rd : (Nat → Int32)), fL_areRunsSo_J225 N Tn Ta Ba Rn Ra Rb Rd = some (r0, Ba9, Rn9, Ra9, Rb9, Rd9) → ∀ (H : Heap) (locs : List Loc), va_P D vwCl (w_0_1_2_5_6_7_8_9_10 q cI cJ cD Tn Ta Ba Rn Ra Rb Rd) H → va_S (gA q [0, 1, 2, 5, 6, 7, 8, 9, 10]) s.heap H locs → ∀ ls : Array Slot, lv_has ls 7 [] → W p l e (headSpec wsL_areRunsSo rL_areRunsSo).room s m ([.ref (q 0)] : List Value).toArray below meth c H locs 0 0 (MQ below (gQ D (some (.int r0)) (w_0_1_2_5_6_7_8_9_10 q cI cJ cD Tn Ta Ba9 Rn9 Ra9 Rb9 Rd9) (gA q [0, 1, 2, 5, 6, 7, 8, 9, 10])) ([.ref (q 0)] : List Value).toArray s 0 0 (gA q [0, 1, 2, 5, 6, 7, 8, 9, 10])) (F0 m 225 ls []) := by
    intro Ba Rn Ra Rb Rd hf H locs hP hS ls hl
    unfold fL_areRunsSo_J225 at hf
    refine lv_iconst (v := (0 : Int32)) hx hb dL_areRunsSo_225 (by decide) ?_
    exact J226 Ba Rn Ra Rb Rd (0 : Int32) hf _ _ hP hS _ (lv_sub hl [] rfl)
  have J218 : ∀ (Ba : (Nat → Int32)) (Rn : Int32) (Ra : (Nat → Int32)) (Rb : (Nat → Int32)) (Rd : (Nat → Int32)) (y0 : Int32) (y1 : Int32), fL_areRunsSo_J218 N Tn Ta Ba Rn Ra Rb Rd y0 y1 = some (r0, Ba9, Rn9, Ra9, Rb9, Rd9) → ∀ (H : Heap) (locs : List Loc), va_P D vwCl (w_0_1_2_5_6_7_8_9_10 q cI cJ cD Tn Ta Ba Rn Ra Rb Rd) H → va_S (gA q [0, 1, 2, 5, 6, 7, 8, 9, 10]) s.heap H locs → ∀ ls : Array Slot, lv_has ls 7 [] → W p l e (headSpec wsL_areRunsSo rL_areRunsSo).room s m ([.ref (q 0)] : List Value).toArray below meth c H locs 0 0 (MQ below (gQ D (some (.int r0)) (w_0_1_2_5_6_7_8_9_10 q cI cJ cD Tn Ta Ba9 Rn9 Ra9 Rb9 Rd9) (gA q [0, 1, 2, 5, 6, 7, 8, 9, 10])) ([.ref (q 0)] : List Value).toArray s 0 0 (gA q [0, 1, 2, 5, 6, 7, 8, 9, 10])) (F0 m 218 ls [.int y1, .int y0]) := by
    intro Ba Rn Ra Rb Rd y0 y1 hf H locs hP hS ls hl
    unfold fL_areRunsSo_J218 at hf
    refine lv_icmp_ne (tgt := 225) hx hb dL_areRunsSo_218 (by decide) (fun c_2 => ?_) (fun c_2 => ?_)
    · have hf := (if_neg c_2).symm.trans hf
      exact J225 Ba Rn Ra Rb Rd hf _ _ hP hS _ (lv_sub hl [] rfl)
    · have hf := (if_pos c_2).symm.trans hf
      refine lv_iconst (v := (1 : Int32)) hx hb dL_areRunsSo_221 (by decide) ?_
      refine lv_goto (tgt := 226) hx hb dL_areRunsSo_222 (by decide) ?_
      exact J226 Ba Rn Ra Rb Rd (1 : Int32) hf _ _ hP hS _ (lv_sub hl [] rfl)
  have J206 : ∀ (Ba : (Nat → Int32)) (Rn : Int32) (Ra : (Nat → Int32)) (Rb : (Nat → Int32)) (Rd : (Nat → Int32)) (y0 : Int32), fL_areRunsSo_J206 N Tn Ta Ba Rn Ra Rb Rd y0 = some (r0, Ba9, Rn9, Ra9, Rb9, Rd9) → ∀ (H : Heap) (locs : List Loc), va_P D vwCl (w_0_1_2_5_6_7_8_9_10 q cI cJ cD Tn Ta Ba Rn Ra Rb Rd) H → va_S (gA q [0, 1, 2, 5, 6, 7, 8, 9, 10]) s.heap H locs → ∀ ls : Array Slot, lv_has ls 7 [(0, .ref (q 0))] → W p l e (headSpec wsL_areRunsSo rL_areRunsSo).room s m ([.ref (q 0)] : List Value).toArray below meth c H locs 0 0 (MQ below (gQ D (some (.int r0)) (w_0_1_2_5_6_7_8_9_10 q cI cJ cD Tn Ta Ba9 Rn9 Ra9 Rb9 Rd9) (gA q [0, 1, 2, 5, 6, 7, 8, 9, 10])) ([.ref (q 0)] : List Value).toArray s 0 0 (gA q [0, 1, 2, 5, 6, 7, 8, 9, 10])) (F0 m 206 ls [.int y0]) := by
    intro Ba Rn Ra Rb Rd y0 hf H locs hP hS ls hl
    unfold fL_areRunsSo_J206 at hf
    refine lv_aload_n hx hb dL_areRunsSo_206 rfl (lv_at hl 0 rfl) ?_
    obtain ⟨⟨r207, Rn207, Ra207, Rb207, Rd207⟩, hc, hf⟩ := bn_some hf
    try dsimp only at hf
    refine g_call0 (ws' := (w_0_1_2_5_6_7_8_9_10 q cI cJ cD Tn Ta Ba Rn207 Ra207 Rb207 Rd207)) (st1 := [.int r207, .int y0]) hq [0, 1, 2, 5, 6, 7, 8, 9, 10] [0, 1, 2, 7, 8, 9, 10] [.inl 0, .inl 1, .inl 2, .inr 3, .inr 4, .inl 3, .inl 4, .inl 5, .inl 6] (va_runV (As := []) (rest := [.int y0]) ⟨hx, hb, hml, hown, hts⟩ (kX8_runs l D cI cJ cD q hq N Tn Ta Rn Ra Rb Rd r207 Rn207 Ra207 Rb207 Rd207 hc) (cwV 0 hts gL_areRunsSo_X8_runs rfl rfl rfl (by decide +kernel) ⟨(Nat.le_of_ble_eq_true rfl), (Nat.le_of_ble_eq_true rfl)⟩) ⟨gP_blind, va_recv hE.1 hP (ci := 6) (q0 := 0) rfl rfl, fun U hU hW => ⟨rfl, by rw [hU]; exact hP.sub (ws' := (w_0_1_2_7_8_9_10 q cI cJ cD Tn Ta Rn Ra Rb Rd)) [0, 1, 2, 5, 6, 7, 8] rfl, gEv.warm hW hE⟩⟩ rfl rfl hl.1 rfl (lv_room (Nat.le_of_ble_eq_true rfl)) dL_areRunsSo_207 ⟨Nat.zero_le _, Nat.zero_le _⟩) hP hS (gSub rfl) rfl rfl rfl rfl rfl (fun H locs hP hS => ?_)
    refine lv_if_le (tgt := 217) hx hb dL_areRunsSo_210 (by decide) (fun c_3 => ?_) (fun c_3 => ?_)
    · have hf := (if_pos c_3).symm.trans hf
      refine lv_iconst (v := (0 : Int32)) hx hb dL_areRunsSo_217 (by decide) ?_
      exact J218 Ba Rn207 Ra207 Rb207 Rd207 y0 (0 : Int32) hf _ _ hP hS _ (lv_sub hl [] rfl)
    · have hf := (if_neg c_3).symm.trans hf
      refine lv_iconst (v := (1 : Int32)) hx hb dL_areRunsSo_213 (by decide) ?_
      refine lv_goto (tgt := 218) hx hb dL_areRunsSo_214 (by decide) ?_
      exact J218 Ba Rn207 Ra207 Rb207 Rd207 y0 (1 : Int32) hf _ _ hP hS _ (lv_sub hl [] rfl)
  have J190 : ∀ (Ba : (Nat → Int32)) (Rn : Int32) (Ra : (Nat → Int32)) (Rb : (Nat → Int32)) (Rd : (Nat → Int32)) (x2 : Int32), fL_areRunsSo_J190 N Tn Ta Ba Rn Ra Rb Rd x2 = some (r0, Ba9, Rn9, Ra9, Rb9, Rd9) → ∀ (H : Heap) (locs : List Loc), va_P D vwCl (w_0_1_2_5_6_7_8_9_10 q cI cJ cD Tn Ta Ba Rn Ra Rb Rd) H → va_S (gA q [0, 1, 2, 5, 6, 7, 8, 9, 10]) s.heap H locs → ∀ ls : Array Slot, lv_has ls 7 [(0, .ref (q 0)), (2, .int x2)] → W p l e (headSpec wsL_areRunsSo rL_areRunsSo).room s m ([.ref (q 0)] : List Value).toArray below meth c H locs 0 0 (MQ below (gQ D (some (.int r0)) (w_0_1_2_5_6_7_8_9_10 q cI cJ cD Tn Ta Ba9 Rn9 Ra9 Rb9 Rd9) (gA q [0, 1, 2, 5, 6, 7, 8, 9, 10])) ([.ref (q 0)] : List Value).toArray s 0 0 (gA q [0, 1, 2, 5, 6, 7, 8, 9, 10])) (F0 m 190 ls []) := by
    intro Ba Rn Ra Rb Rd x2 hf H locs hP hS ls hl
    unfold fL_areRunsSo_J190 at hf
    refine lv_iload_n hx hb dL_areRunsSo_190 rfl (lv_at hl 1 rfl) ?_
    refine lv_if_eq (tgt := 225) hx hb dL_areRunsSo_191 (by decide) (fun c_4 => ?_) (fun c_4 => ?_)
    · have hf := (if_pos c_4).symm.trans hf
      exact J225 Ba Rn Ra Rb Rd hf _ _ hP hS _ (lv_sub hl [] rfl)
    · have hf := (if_neg c_4).symm.trans hf
      refine lv_aload_n hx hb dL_areRunsSo_194 rfl (lv_at hl 0 rfl) ?_
      obtain ⟨⟨r195, Rn195, Ra195, Rb195, Rd195⟩, hc, hf⟩ := bn_some hf
      try dsimp only at hf
      refine g_call0 (ws' := (w_0_1_2_5_6_7_8_9_10 q cI cJ cD Tn Ta Ba Rn195 Ra195 Rb195 Rd195)) (st1 := [.int r195]) hq [0, 1, 2, 5, 6, 7, 8, 9, 10] [0, 1, 2, 7, 8, 9, 10] [.inl 0, .inl 1, .inl 2, .inr 3, .inr 4, .inl 3, .inl 4, .inl 5, .inl 6] (va_runV (As := []) (rest := []) ⟨hx, hb, hml, hown, hts⟩ (kX8_squares l D cI cJ cD q hq N Tn Ta Rn Ra Rb Rd r195 Rn195 Ra195 Rb195 Rd195 hc) (cwV 0 hts gL_areRunsSo_X8_squares rfl rfl rfl (by decide +kernel) ⟨(Nat.le_of_ble_eq_true rfl), (Nat.le_of_ble_eq_true rfl)⟩) ⟨gP_blind, va_recv hE.1 hP (ci := 6) (q0 := 0) rfl rfl, fun U hU hW => ⟨rfl, by rw [hU]; exact hP.sub (ws' := (w_0_1_2_7_8_9_10 q cI cJ cD Tn Ta Rn Ra Rb Rd)) [0, 1, 2, 5, 6, 7, 8] rfl, gEv.warm hW hE⟩⟩ rfl rfl hl.1 rfl (lv_room (Nat.le_of_ble_eq_true rfl)) dL_areRunsSo_195 ⟨Nat.zero_le _, Nat.zero_le _⟩) hP hS (gSub rfl) rfl rfl rfl rfl rfl (fun H locs hP hS => ?_)
      refine lv_if_le (tgt := 205) hx hb dL_areRunsSo_198 (by decide) (fun c_5 => ?_) (fun c_5 => ?_)
      · have hf := (if_pos c_5).symm.trans hf
        refine lv_iconst (v := (0 : Int32)) hx hb dL_areRunsSo_205 (by decide) ?_
        exact J206 Ba Rn195 Ra195 Rb195 Rd195 (0 : Int32) hf _ _ hP hS _ (lv_sub hl [0] rfl)
      · have hf := (if_neg c_5).symm.trans hf
        refine lv_iconst (v := (1 : Int32)) hx hb dL_areRunsSo_201 (by decide) ?_
        refine lv_goto (tgt := 206) hx hb dL_areRunsSo_202 (by decide) ?_
        exact J206 Ba Rn195 Ra195 Rb195 Rd195 (1 : Int32) hf _ _ hP hS _ (lv_sub hl [0] rfl)
  have K9 : ∀ (n9 : Nat) (Ba : (Nat → Int32)) (Rn : Int32) (Ra : (Nat → Int32)) (Rb : (Nat → Int32)) (Rd : (Nat → Int32)) (x1 : Int32) (x2 : Int32) (x3 : Int32), fL_areRunsSo_H9 N Tn Ta n9 Ba Rn Ra Rb Rd x1 x2 x3 = some (r0, Ba9, Rn9, Ra9, Rb9, Rd9) → ∀ (H : Heap) (locs : List Loc), va_P D vwCl (w_0_1_2_5_6_7_8_9_10 q cI cJ cD Tn Ta Ba Rn Ra Rb Rd) H → va_S (gA q [0, 1, 2, 5, 6, 7, 8, 9, 10]) s.heap H locs → ∀ ls : Array Slot, lv_has ls 7 [(0, .ref (q 0)), (1, .int x1), (2, .int x2), (3, .int x3)] → W p l e (headSpec wsL_areRunsSo rL_areRunsSo).room s m ([.ref (q 0)] : List Value).toArray below meth c H locs 0 0 (MQ below (gQ D (some (.int r0)) (w_0_1_2_5_6_7_8_9_10 q cI cJ cD Tn Ta Ba9 Rn9 Ra9 Rb9 Rd9) (gA q [0, 1, 2, 5, 6, 7, 8, 9, 10])) ([.ref (q 0)] : List Value).toArray s 0 0 (gA q [0, 1, 2, 5, 6, 7, 8, 9, 10])) (F0 m 9 ls []) := by
    intro n9
    induction n9 with
    | zero =>
      intro Ba Rn Ra Rb Rd x1 x2 x3 hf
      exact nomatch (show (none : Option (Int32 × (Nat → Int32) × Int32 × (Nat → Int32) × (Nat → Int32) × (Nat → Int32))) = some (r0, Ba9, Rn9, Ra9, Rb9, Rd9) from hf)
    | succ n9 ih9 =>
      have J183 : ∀ (Ba : (Nat → Int32)) (Rn : Int32) (Ra : (Nat → Int32)) (Rb : (Nat → Int32)) (Rd : (Nat → Int32)) (x1 : Int32) (x3 : Int32) (y0 : Int32), fL_areRunsSo_J183 N Tn Ta (fL_areRunsSo_H9 N Tn Ta n9) Ba Rn Ra Rb Rd x1 x3 y0 = some (r0, Ba9, Rn9, Ra9, Rb9, Rd9) → ∀ (H : Heap) (locs : List Loc), va_P D vwCl (w_0_1_2_5_6_7_8_9_10 q cI cJ cD Tn Ta Ba Rn Ra Rb Rd) H → va_S (gA q [0, 1, 2, 5, 6, 7, 8, 9, 10]) s.heap H locs → ∀ ls : Array Slot, lv_has ls 7 [(0, .ref (q 0)), (1, .int x1), (3, .int x3)] → W p l e (headSpec wsL_areRunsSo rL_areRunsSo).room s m ([.ref (q 0)] : List Value).toArray below meth c H locs 0 0 (MQ below (gQ D (some (.int r0)) (w_0_1_2_5_6_7_8_9_10 q cI cJ cD Tn Ta Ba9 Rn9 Ra9 Rb9 Rd9) (gA q [0, 1, 2, 5, 6, 7, 8, 9, 10])) ([.ref (q 0)] : List Value).toArray s 0 0 (gA q [0, 1, 2, 5, 6, 7, 8, 9, 10])) (F0 m 183 ls [.int y0]) := by
        intro Ba Rn Ra Rb Rd x1 x3 y0 hf H locs hP hS ls hl
        unfold fL_areRunsSo_J183 at hf
        refine lv_istore_n (lv' := [(2, .int y0), (0, .ref (q 0)), (1, .int x1), (3, .int x3)]) hx hb dL_areRunsSo_183 rfl hl (by decide) rfl (fun ls hl => ?_)
        refine lv_iinc (v := (x3 + 1)) (lv' := [(3, .int (x3 + 1)), (2, .int y0), (0, .ref (q 0)), (1, .int x1)]) hx hb dL_areRunsSo_184 hl (k := 3) rfl rfl (by decide) rfl (fun ls hl => ?_)
        refine lv_goto (tgt := 9) hx hb dL_areRunsSo_187 (by decide) ?_
        exact ih9 Ba Rn Ra Rb Rd x1 y0 (x3 + 1) hf _ _ hP hS _ (lv_sub hl [2, 3, 1, 0] rfl)
      have J178 : ∀ (Ba : (Nat → Int32)) (Rn : Int32) (Ra : (Nat → Int32)) (Rb : (Nat → Int32)) (Rd : (Nat → Int32)) (x1 : Int32) (x3 : Int32), fL_areRunsSo_J178 N Tn Ta (fL_areRunsSo_H9 N Tn Ta n9) Ba Rn Ra Rb Rd x1 x3 = some (r0, Ba9, Rn9, Ra9, Rb9, Rd9) → ∀ (H : Heap) (locs : List Loc), va_P D vwCl (w_0_1_2_5_6_7_8_9_10 q cI cJ cD Tn Ta Ba Rn Ra Rb Rd) H → va_S (gA q [0, 1, 2, 5, 6, 7, 8, 9, 10]) s.heap H locs → ∀ ls : Array Slot, lv_has ls 7 [(0, .ref (q 0)), (1, .int x1), (3, .int x3)] → W p l e (headSpec wsL_areRunsSo rL_areRunsSo).room s m ([.ref (q 0)] : List Value).toArray below meth c H locs 0 0 (MQ below (gQ D (some (.int r0)) (w_0_1_2_5_6_7_8_9_10 q cI cJ cD Tn Ta Ba9 Rn9 Ra9 Rb9 Rd9) (gA q [0, 1, 2, 5, 6, 7, 8, 9, 10])) ([.ref (q 0)] : List Value).toArray s 0 0 (gA q [0, 1, 2, 5, 6, 7, 8, 9, 10])) (F0 m 178 ls []) := by
        intro Ba Rn Ra Rb Rd x1 x3 hf H locs hP hS ls hl
        unfold fL_areRunsSo_J178 at hf
        refine lv_iconst (v := (1 : Int32)) hx hb dL_areRunsSo_178 (by decide) ?_
        refine lv_goto (tgt := 183) hx hb dL_areRunsSo_179 (by decide) ?_
        exact J183 Ba Rn Ra Rb Rd x1 x3 (1 : Int32) hf _ _ hP hS _ (lv_sub hl [0, 1, 2] rfl)
      have J182 : ∀ (Ba : (Nat → Int32)) (Rn : Int32) (Ra : (Nat → Int32)) (Rb : (Nat → Int32)) (Rd : (Nat → Int32)) (x1 : Int32) (x3 : Int32), fL_areRunsSo_J182 N Tn Ta (fL_areRunsSo_H9 N Tn Ta n9) Ba Rn Ra Rb Rd x1 x3 = some (r0, Ba9, Rn9, Ra9, Rb9, Rd9) → ∀ (H : Heap) (locs : List Loc), va_P D vwCl (w_0_1_2_5_6_7_8_9_10 q cI cJ cD Tn Ta Ba Rn Ra Rb Rd) H → va_S (gA q [0, 1, 2, 5, 6, 7, 8, 9, 10]) s.heap H locs → ∀ ls : Array Slot, lv_has ls 7 [(0, .ref (q 0)), (1, .int x1), (3, .int x3)] → W p l e (headSpec wsL_areRunsSo rL_areRunsSo).room s m ([.ref (q 0)] : List Value).toArray below meth c H locs 0 0 (MQ below (gQ D (some (.int r0)) (w_0_1_2_5_6_7_8_9_10 q cI cJ cD Tn Ta Ba9 Rn9 Ra9 Rb9 Rd9) (gA q [0, 1, 2, 5, 6, 7, 8, 9, 10])) ([.ref (q 0)] : List Value).toArray s 0 0 (gA q [0, 1, 2, 5, 6, 7, 8, 9, 10])) (F0 m 182 ls []) := by
        intro Ba Rn Ra Rb Rd x1 x3 hf H locs hP hS ls hl
        unfold fL_areRunsSo_J182 at hf
        refine lv_iconst (v := (0 : Int32)) hx hb dL_areRunsSo_182 (by decide) ?_
        exact J183 Ba Rn Ra Rb Rd x1 x3 (0 : Int32) hf _ _ hP hS _ (lv_sub hl [0, 1, 2] rfl)
      have J133 : ∀ (Ba : (Nat → Int32)) (Rn : Int32) (Ra : (Nat → Int32)) (Rb : (Nat → Int32)) (Rd : (Nat → Int32)) (x1 : Int32) (x3 : Int32) (x4 : Int32) (x6 : Int32) (y0 : Int32), fL_areRunsSo_J133 N Tn Ta (fL_areRunsSo_H9 N Tn Ta n9) Ba Rn Ra Rb Rd x1 x3 x4 x6 y0 = some (r0, Ba9, Rn9, Ra9, Rb9, Rd9) → ∀ (H : Heap) (locs : List Loc), va_P D vwCl (w_0_1_2_5_6_7_8_9_10 q cI cJ cD Tn Ta Ba Rn Ra Rb Rd) H → va_S (gA q [0, 1, 2, 5, 6, 7, 8, 9, 10]) s.heap H locs → ∀ ls : Array Slot, lv_has ls 7 [(0, .ref (q 0)), (1, .int x1), (3, .int x3), (4, .int x4), (6, .int x6)] → W p l e (headSpec wsL_areRunsSo rL_areRunsSo).room s m ([.ref (q 0)] : List Value).toArray below meth c H locs 0 0 (MQ below (gQ D (some (.int r0)) (w_0_1_2_5_6_7_8_9_10 q cI cJ cD Tn Ta Ba9 Rn9 Ra9 Rb9 Rd9) (gA q [0, 1, 2, 5, 6, 7, 8, 9, 10])) ([.ref (q 0)] : List Value).toArray s 0 0 (gA q [0, 1, 2, 5, 6, 7, 8, 9, 10])) (F0 m 133 ls [.int y0]) := by
        intro Ba Rn Ra Rb Rd x1 x3 x4 x6 y0 hf H locs hP hS ls hl
        unfold fL_areRunsSo_J133 at hf
        refine lv_istore_n (lv' := [(2, .int y0), (0, .ref (q 0)), (1, .int x1), (3, .int x3), (4, .int x4), (6, .int x6)]) hx hb dL_areRunsSo_133 rfl hl (by decide) rfl (fun ls hl => ?_)
        refine lv_iload_n hx hb dL_areRunsSo_134 rfl (lv_at hl 0 rfl) ?_
        refine lv_if_eq (tgt := 182) hx hb dL_areRunsSo_135 (by decide) (fun c_6 => ?_) (fun c_6 => ?_)
        · have hf := (if_pos c_6).symm.trans hf
          exact J182 Ba Rn Ra Rb Rd x1 x3 hf _ _ hP hS _ (lv_sub hl [1, 2, 3] rfl)
        · have hf := (if_neg c_6).symm.trans hf
          refine lv_iload_n hx hb dL_areRunsSo_138 rfl (lv_at hl 3 rfl) ?_
          refine lv_if_eq (tgt := 178) hx hb dL_areRunsSo_139 (by decide) (fun c_7 => ?_) (fun c_7 => ?_)
          · have hf := (if_pos c_7).symm.trans hf
            exact J178 Ba Rn Ra Rb Rd x1 x3 hf _ _ hP hS _ (lv_sub hl [1, 2, 3] rfl)
          · have hf := (if_neg c_7).symm.trans hf
            refine lv_aload_n hx hb dL_areRunsSo_142 rfl (lv_at hl 1 rfl) ?_
            refine lv_iload_n hx hb dL_areRunsSo_143 rfl (lv_at hl 3 rfl) ?_
            refine lv_iconst (v := (1 : Int32)) hx hb dL_areRunsSo_144 (by decide) ?_
            refine lv_isub hx hb dL_areRunsSo_145 ?_
            rcases bx_some hf with ⟨⟨e146, Rn146, Ra146, Rb146, Rd146⟩, hc, hf⟩ | ⟨⟨r146, Rn146, Ra146, Rb146, Rd146⟩, hc, hf⟩
            · exact nomatch hf
            try dsimp only at hf
            refine g_call0 (ws' := (w_0_1_2_5_6_7_8_9_10 q cI cJ cD Tn Ta Ba Rn146 Ra146 Rb146 Rd146)) (st1 := [.int r146]) hq [0, 1, 2, 5, 6, 7, 8, 9, 10] [0, 1, 2, 7, 8, 9, 10] [.inl 0, .inl 1, .inl 2, .inr 3, .inr 4, .inl 3, .inl 4, .inl 5, .inl 6] (va_runV (As := [.int (x3 - (1 : Int32))]) (rest := []) ⟨hx, hb, hml, hown, hts⟩ (kX8_runStart l D cI cJ cD q hq N Tn Ta Rn Ra Rb Rd (x3 - (1 : Int32)) r146 Rn146 Ra146 Rb146 Rd146 hc) (cwV 1 hts gL_areRunsSo_X8_runStart rfl rfl rfl (by decide +kernel) ⟨(Nat.le_of_ble_eq_true rfl), (Nat.le_of_ble_eq_true rfl)⟩) ⟨gP_blind, va_recv hE.1 hP (ci := 6) (q0 := 0) rfl rfl, fun U hU hW => ⟨rfl, by rw [hU]; exact hP.sub (ws' := (w_0_1_2_7_8_9_10 q cI cJ cD Tn Ta Rn Ra Rb Rd)) [0, 1, 2, 5, 6, 7, 8] rfl, gEv.warm hW hE⟩⟩ rfl rfl hl.1 rfl (lv_room (Nat.le_of_ble_eq_true rfl)) dL_areRunsSo_146 ⟨Nat.zero_le _, Nat.zero_le _⟩) hP hS (gSub rfl) rfl rfl rfl rfl rfl (fun H locs hP hS => ?_)
            refine lv_iload hx hb dL_areRunsSo_149 (lv_at hl 4 rfl) ?_
            refine lv_icmp_lt (tgt := 178) hx hb dL_areRunsSo_151 (by decide) (fun c_8 => ?_) (fun c_8 => ?_)
            · have hf := (if_pos c_8).symm.trans hf
              exact J178 Ba Rn146 Ra146 Rb146 Rd146 x1 x3 hf _ _ hP hS _ (lv_sub hl [1, 2, 3] rfl)
            · have hf := (if_neg c_8).symm.trans hf
              refine lv_aload_n hx hb dL_areRunsSo_154 rfl (lv_at hl 1 rfl) ?_
              refine lv_iload_n hx hb dL_areRunsSo_155 rfl (lv_at hl 3 rfl) ?_
              refine lv_iconst (v := (1 : Int32)) hx hb dL_areRunsSo_156 (by decide) ?_
              refine lv_isub hx hb dL_areRunsSo_157 ?_
              rcases bx_some hf with ⟨⟨e158, Rn158, Ra158, Rb158, Rd158⟩, hc, hf⟩ | ⟨⟨r158, Rn158, Ra158, Rb158, Rd158⟩, hc, hf⟩
              · exact nomatch hf
              try dsimp only at hf
              refine g_call0 (ws' := (w_0_1_2_5_6_7_8_9_10 q cI cJ cD Tn Ta Ba Rn158 Ra158 Rb158 Rd158)) (st1 := [.int r158]) hq [0, 1, 2, 5, 6, 7, 8, 9, 10] [0, 1, 2, 7, 8, 9, 10] [.inl 0, .inl 1, .inl 2, .inr 3, .inr 4, .inl 3, .inl 4, .inl 5, .inl 6] (va_runV (As := [.int (x3 - (1 : Int32))]) (rest := []) ⟨hx, hb, hml, hown, hts⟩ (kX8_runStart l D cI cJ cD q hq N Tn Ta Rn146 Ra146 Rb146 Rd146 (x3 - (1 : Int32)) r158 Rn158 Ra158 Rb158 Rd158 hc) (cwV 1 hts gL_areRunsSo_X8_runStart rfl rfl rfl (by decide +kernel) ⟨(Nat.le_of_ble_eq_true rfl), (Nat.le_of_ble_eq_true rfl)⟩) ⟨gP_blind, va_recv hE.1 hP (ci := 6) (q0 := 0) rfl rfl, fun U hU hW => ⟨rfl, by rw [hU]; exact hP.sub (ws' := (w_0_1_2_7_8_9_10 q cI cJ cD Tn Ta Rn146 Ra146 Rb146 Rd146)) [0, 1, 2, 5, 6, 7, 8] rfl, gEv.warm hW hE⟩⟩ rfl rfl hl.1 rfl (lv_room (Nat.le_of_ble_eq_true rfl)) dL_areRunsSo_158 ⟨Nat.zero_le _, Nat.zero_le _⟩) hP hS (gSub rfl) rfl rfl rfl rfl rfl (fun H locs hP hS => ?_)
              refine lv_iload hx hb dL_areRunsSo_161 (lv_at hl 4 rfl) ?_
              refine lv_icmp_ne (tgt := 182) hx hb dL_areRunsSo_163 (by decide) (fun c_9 => ?_) (fun c_9 => ?_)
              · have hf := (if_neg c_9).symm.trans hf
                exact J182 Ba Rn158 Ra158 Rb158 Rd158 x1 x3 hf _ _ hP hS _ (lv_sub hl [1, 2, 3] rfl)
              · have hf := (if_pos c_9).symm.trans hf
                refine lv_aload_n hx hb dL_areRunsSo_166 rfl (lv_at hl 1 rfl) ?_
                refine lv_iload_n hx hb dL_areRunsSo_167 rfl (lv_at hl 3 rfl) ?_
                refine lv_iconst (v := (1 : Int32)) hx hb dL_areRunsSo_168 (by decide) ?_
                refine lv_isub hx hb dL_areRunsSo_169 ?_
                rcases bx_some hf with ⟨⟨e170, Rn170, Ra170, Rb170, Rd170⟩, hc, hf⟩ | ⟨⟨r170, Rn170, Ra170, Rb170, Rd170⟩, hc, hf⟩
                · exact nomatch hf
                try dsimp only at hf
                refine g_call0 (ws' := (w_0_1_2_5_6_7_8_9_10 q cI cJ cD Tn Ta Ba Rn170 Ra170 Rb170 Rd170)) (st1 := [.int r170]) hq [0, 1, 2, 5, 6, 7, 8, 9, 10] [0, 1, 2, 7, 8, 9, 10] [.inl 0, .inl 1, .inl 2, .inr 3, .inr 4, .inl 3, .inl 4, .inl 5, .inl 6] (va_runV (As := [.int (x3 - (1 : Int32))]) (rest := []) ⟨hx, hb, hml, hown, hts⟩ (kX8_runPeriod l D cI cJ cD q hq N Tn Ta Rn158 Ra158 Rb158 Rd158 (x3 - (1 : Int32)) r170 Rn170 Ra170 Rb170 Rd170 hc) (cwV 1 hts gL_areRunsSo_X8_runPeriod rfl rfl rfl (by decide +kernel) ⟨(Nat.le_of_ble_eq_true rfl), (Nat.le_of_ble_eq_true rfl)⟩) ⟨gP_blind, va_recv hE.1 hP (ci := 6) (q0 := 0) rfl rfl, fun U hU hW => ⟨rfl, by rw [hU]; exact hP.sub (ws' := (w_0_1_2_7_8_9_10 q cI cJ cD Tn Ta Rn158 Ra158 Rb158 Rd158)) [0, 1, 2, 5, 6, 7, 8] rfl, gEv.warm hW hE⟩⟩ rfl rfl hl.1 rfl (lv_room (Nat.le_of_ble_eq_true rfl)) dL_areRunsSo_170 ⟨Nat.zero_le _, Nat.zero_le _⟩) hP hS (gSub rfl) rfl rfl rfl rfl rfl (fun H locs hP hS => ?_)
                refine lv_iload hx hb dL_areRunsSo_173 (lv_at hl 5 rfl) ?_
                refine lv_icmp_ge (tgt := 182) hx hb dL_areRunsSo_175 (by decide) (fun c_10 => ?_) (fun c_10 => ?_)
                · have hf := (if_pos c_10).symm.trans hf
                  exact J182 Ba Rn170 Ra170 Rb170 Rd170 x1 x3 hf _ _ hP hS _ (lv_sub hl [1, 2, 3] rfl)
                · have hf := (if_neg c_10).symm.trans hf
                  exact J178 Ba Rn170 Ra170 Rb170 Rd170 x1 x3 hf _ _ hP hS _ (lv_sub hl [1, 2, 3] rfl)
      have J132 : ∀ (Ba : (Nat → Int32)) (Rn : Int32) (Ra : (Nat → Int32)) (Rb : (Nat → Int32)) (Rd : (Nat → Int32)) (x1 : Int32) (x3 : Int32) (x4 : Int32) (x6 : Int32), fL_areRunsSo_J132 N Tn Ta (fL_areRunsSo_H9 N Tn Ta n9) Ba Rn Ra Rb Rd x1 x3 x4 x6 = some (r0, Ba9, Rn9, Ra9, Rb9, Rd9) → ∀ (H : Heap) (locs : List Loc), va_P D vwCl (w_0_1_2_5_6_7_8_9_10 q cI cJ cD Tn Ta Ba Rn Ra Rb Rd) H → va_S (gA q [0, 1, 2, 5, 6, 7, 8, 9, 10]) s.heap H locs → ∀ ls : Array Slot, lv_has ls 7 [(0, .ref (q 0)), (1, .int x1), (3, .int x3), (4, .int x4), (6, .int x6)] → W p l e (headSpec wsL_areRunsSo rL_areRunsSo).room s m ([.ref (q 0)] : List Value).toArray below meth c H locs 0 0 (MQ below (gQ D (some (.int r0)) (w_0_1_2_5_6_7_8_9_10 q cI cJ cD Tn Ta Ba9 Rn9 Ra9 Rb9 Rd9) (gA q [0, 1, 2, 5, 6, 7, 8, 9, 10])) ([.ref (q 0)] : List Value).toArray s 0 0 (gA q [0, 1, 2, 5, 6, 7, 8, 9, 10])) (F0 m 132 ls []) := by
        intro Ba Rn Ra Rb Rd x1 x3 x4 x6 hf H locs hP hS ls hl
        unfold fL_areRunsSo_J132 at hf
        refine lv_iconst (v := (0 : Int32)) hx hb dL_areRunsSo_132 (by decide) ?_
        exact J133 Ba Rn Ra Rb Rd x1 x3 x4 x6 (0 : Int32) hf _ _ hP hS _ (lv_sub hl [0, 1, 2, 3, 4] rfl)
      have J108 : ∀ (Ba : (Nat → Int32)) (Rn : Int32) (Ra : (Nat → Int32)) (Rb : (Nat → Int32)) (Rd : (Nat → Int32)) (x1 : Int32) (x3 : Int32) (x4 : Int32) (x5 : Int32) (x6 : Int32), fL_areRunsSo_J108 N Tn Ta (fL_areRunsSo_H9 N Tn Ta n9) Ba Rn Ra Rb Rd x1 x3 x4 x5 x6 = some (r0, Ba9, Rn9, Ra9, Rb9, Rd9) → ∀ (H : Heap) (locs : List Loc), va_P D vwCl (w_0_1_2_5_6_7_8_9_10 q cI cJ cD Tn Ta Ba Rn Ra Rb Rd) H → va_S (gA q [0, 1, 2, 5, 6, 7, 8, 9, 10]) s.heap H locs → ∀ ls : Array Slot, lv_has ls 7 [(0, .ref (q 0)), (1, .int x1), (3, .int x3), (4, .int x4), (5, .int x5), (6, .int x6)] → W p l e (headSpec wsL_areRunsSo rL_areRunsSo).room s m ([.ref (q 0)] : List Value).toArray below meth c H locs 0 0 (MQ below (gQ D (some (.int r0)) (w_0_1_2_5_6_7_8_9_10 q cI cJ cD Tn Ta Ba9 Rn9 Ra9 Rb9 Rd9) (gA q [0, 1, 2, 5, 6, 7, 8, 9, 10])) ([.ref (q 0)] : List Value).toArray s 0 0 (gA q [0, 1, 2, 5, 6, 7, 8, 9, 10])) (F0 m 108 ls []) := by
        intro Ba Rn Ra Rb Rd x1 x3 x4 x5 x6 hf H locs hP hS ls hl
        unfold fL_areRunsSo_J108 at hf
        refine lv_aload_n hx hb dL_areRunsSo_108 rfl (lv_at hl 0 rfl) ?_
        refine lv_iload hx hb dL_areRunsSo_109 (lv_at hl 3 rfl) ?_
        rcases bx_some hf with ⟨⟨e111, Rn111, Ra111, Rb111, Rd111⟩, hc, hf⟩ | ⟨⟨r111, Rn111, Ra111, Rb111, Rd111⟩, hc, hf⟩
        · exact nomatch hf
        try dsimp only at hf
        refine g_call0 (ws' := (w_0_1_2_5_6_7_8_9_10 q cI cJ cD Tn Ta Ba Rn111 Ra111 Rb111 Rd111)) (st1 := [.int r111]) hq [0, 1, 2, 5, 6, 7, 8, 9, 10] [0, 1, 2, 7, 8, 9, 10] [.inl 0, .inl 1, .inl 2, .inr 3, .inr 4, .inl 3, .inl 4, .inl 5, .inl 6] (va_runV (As := [.int x4]) (rest := []) ⟨hx, hb, hml, hown, hts⟩ (kX8_runsOver l D cI cJ cD q hq N Tn Ta Rn Ra Rb Rd x4 r111 Rn111 Ra111 Rb111 Rd111 hc) (cwV 1 hts gL_areRunsSo_X8_runsOver rfl rfl rfl (by decide +kernel) ⟨(Nat.le_of_ble_eq_true rfl), (Nat.le_of_ble_eq_true rfl)⟩) ⟨gP_blind, va_recv hE.1 hP (ci := 6) (q0 := 0) rfl rfl, fun U hU hW => ⟨rfl, by rw [hU]; exact hP.sub (ws' := (w_0_1_2_7_8_9_10 q cI cJ cD Tn Ta Rn Ra Rb Rd)) [0, 1, 2, 5, 6, 7, 8] rfl, gEv.warm hW hE⟩⟩ rfl rfl hl.1 rfl (lv_room (Nat.le_of_ble_eq_true rfl)) dL_areRunsSo_111 ⟨Nat.zero_le _, Nat.zero_le _⟩) hP hS (gSub rfl) rfl rfl rfl rfl rfl (fun H locs hP hS => ?_)
        refine lv_if_le (tgt := 132) hx hb dL_areRunsSo_114 (by decide) (fun c_11 => ?_) (fun c_11 => ?_)
        · have hf := (if_pos c_11).symm.trans hf
          exact J132 Ba Rn111 Ra111 Rb111 Rd111 x1 x3 x4 x6 hf _ _ hP hS _ (lv_sub hl [0, 1, 2, 3, 5] rfl)
        · have hf := (if_neg c_11).symm.trans hf
          refine lv_aload_n hx hb dL_areRunsSo_117 rfl (lv_at hl 0 rfl) ?_
          refine lv_iload hx hb dL_areRunsSo_118 (lv_at hl 4 rfl) ?_
          refine lv_iconst (v := (1 : Int32)) hx hb dL_areRunsSo_120 (by decide) ?_
          refine lv_isub hx hb dL_areRunsSo_121 ?_
          rcases bx_some hf with ⟨⟨e122, Rn122, Ra122, Rb122, Rd122⟩, hc, hf⟩ | ⟨⟨r122, Rn122, Ra122, Rb122, Rd122⟩, hc, hf⟩
          · exact nomatch hf
          try dsimp only at hf
          refine g_call0 (ws' := (w_0_1_2_5_6_7_8_9_10 q cI cJ cD Tn Ta Ba Rn122 Ra122 Rb122 Rd122)) (st1 := [.int r122]) hq [0, 1, 2, 5, 6, 7, 8, 9, 10] [0, 1, 2, 7, 8, 9, 10] [.inl 0, .inl 1, .inl 2, .inr 3, .inr 4, .inl 3, .inl 4, .inl 5, .inl 6] (va_runV (As := [.int (x5 - (1 : Int32))]) (rest := []) ⟨hx, hb, hml, hown, hts⟩ (kX8_runsOver l D cI cJ cD q hq N Tn Ta Rn111 Ra111 Rb111 Rd111 (x5 - (1 : Int32)) r122 Rn122 Ra122 Rb122 Rd122 hc) (cwV 1 hts gL_areRunsSo_X8_runsOver rfl rfl rfl (by decide +kernel) ⟨(Nat.le_of_ble_eq_true rfl), (Nat.le_of_ble_eq_true rfl)⟩) ⟨gP_blind, va_recv hE.1 hP (ci := 6) (q0 := 0) rfl rfl, fun U hU hW => ⟨rfl, by rw [hU]; exact hP.sub (ws' := (w_0_1_2_7_8_9_10 q cI cJ cD Tn Ta Rn111 Ra111 Rb111 Rd111)) [0, 1, 2, 5, 6, 7, 8] rfl, gEv.warm hW hE⟩⟩ rfl rfl hl.1 rfl (lv_room (Nat.le_of_ble_eq_true rfl)) dL_areRunsSo_122 ⟨Nat.zero_le _, Nat.zero_le _⟩) hP hS (gSub rfl) rfl rfl rfl rfl rfl (fun H locs hP hS => ?_)
          refine lv_if_le (tgt := 132) hx hb dL_areRunsSo_125 (by decide) (fun c_12 => ?_) (fun c_12 => ?_)
          · have hf := (if_pos c_12).symm.trans hf
            exact J132 Ba Rn122 Ra122 Rb122 Rd122 x1 x3 x4 x6 hf _ _ hP hS _ (lv_sub hl [0, 1, 2, 3, 5] rfl)
          · have hf := (if_neg c_12).symm.trans hf
            refine lv_iconst (v := (1 : Int32)) hx hb dL_areRunsSo_128 (by decide) ?_
            refine lv_goto (tgt := 133) hx hb dL_areRunsSo_129 (by decide) ?_
            exact J133 Ba Rn122 Ra122 Rb122 Rd122 x1 x3 x4 x6 (1 : Int32) hf _ _ hP hS _ (lv_sub hl [0, 1, 2, 3, 5] rfl)
      have J87 : ∀ (Ba : (Nat → Int32)) (Rn : Int32) (Ra : (Nat → Int32)) (Rb : (Nat → Int32)) (Rd : (Nat → Int32)) (x1 : Int32) (x3 : Int32) (x4 : Int32) (x5 : Int32) (x6 : Int32), fL_areRunsSo_J87 N Tn Ta (fL_areRunsSo_H9 N Tn Ta n9) Ba Rn Ra Rb Rd x1 x3 x4 x5 x6 = some (r0, Ba9, Rn9, Ra9, Rb9, Rd9) → ∀ (H : Heap) (locs : List Loc), va_P D vwCl (w_0_1_2_5_6_7_8_9_10 q cI cJ cD Tn Ta Ba Rn Ra Rb Rd) H → va_S (gA q [0, 1, 2, 5, 6, 7, 8, 9, 10]) s.heap H locs → ∀ ls : Array Slot, lv_has ls 7 [(0, .ref (q 0)), (1, .int x1), (3, .int x3), (4, .int x4), (5, .int x5), (6, .int x6)] → W p l e (headSpec wsL_areRunsSo rL_areRunsSo).room s m ([.ref (q 0)] : List Value).toArray below meth c H locs 0 0 (MQ below (gQ D (some (.int r0)) (w_0_1_2_5_6_7_8_9_10 q cI cJ cD Tn Ta Ba9 Rn9 Ra9 Rb9 Rd9) (gA q [0, 1, 2, 5, 6, 7, 8, 9, 10])) ([.ref (q 0)] : List Value).toArray s 0 0 (gA q [0, 1, 2, 5, 6, 7, 8, 9, 10])) (F0 m 87 ls []) := by
        intro Ba Rn Ra Rb Rd x1 x3 x4 x5 x6 hf H locs hP hS ls hl
        unfold fL_areRunsSo_J87 at hf
        refine lv_iload hx hb dL_areRunsSo_87 (lv_at hl 4 rfl) ?_
        refine lv_iload_n hx hb dL_areRunsSo_89 rfl (lv_at hl 1 rfl) ?_
        refine lv_icmp_eq (tgt := 108) hx hb dL_areRunsSo_90 (by decide) (fun c_13 => ?_) (fun c_13 => ?_)
        · have hf := (if_pos c_13).symm.trans hf
          exact J108 Ba Rn Ra Rb Rd x1 x3 x4 x5 x6 hf _ _ hP hS _ (lv_sub hl [0, 1, 2, 3, 4, 5] rfl)
        · have hf := (if_neg c_13).symm.trans hf
          refine lv_aload_n hx hb dL_areRunsSo_93 rfl (lv_at hl 0 rfl) ?_
          refine lv_iload hx hb dL_areRunsSo_94 (lv_at hl 3 rfl) ?_
          refine lv_iload hx hb dL_areRunsSo_96 (lv_at hl 4 rfl) ?_
          refine lv_iconst (v := (1 : Int32)) hx hb dL_areRunsSo_98 (by decide) ?_
          refine lv_iadd hx hb dL_areRunsSo_99 ?_
          refine lv_iload hx hb dL_areRunsSo_100 (lv_at hl 5 rfl) ?_
          rcases bx_some hf with ⟨e102, hc, hf⟩ | ⟨r102, hc, hf⟩
          · exact nomatch hf
          try dsimp only at hf
          refine g_call0 (ws' := (w_0_1_2_5_6_7_8_9_10 q cI cJ cD Tn Ta Ba Rn Ra Rb Rd)) (st1 := [.int r102]) hq [0, 1, 2, 5, 6, 7, 8, 9, 10] [0, 1, 2] [.inl 0, .inl 1, .inl 2, .inr 3, .inr 4, .inr 5, .inr 6, .inr 7, .inr 8] (va_runV (As := [.int x4, .int (x5 + (1 : Int32)), .int x6]) (rest := []) ⟨hx, hb, hml, hown, hts⟩ (kX8_isPeriod l D cI cJ cD q hq N Tn Ta x4 (x5 + (1 : Int32)) x6 r102 hc) (cwV 3 hts gL_areRunsSo_X8_isPeriod rfl rfl rfl (by decide +kernel) ⟨(Nat.le_of_ble_eq_true rfl), (Nat.le_of_ble_eq_true rfl)⟩) ⟨gP_blind, va_recv hE.1 hP (ci := 6) (q0 := 0) rfl rfl, fun U hU hW => ⟨rfl, by rw [hU]; exact hP.sub (ws' := (w_0_1_2 q cI cJ cD Tn Ta)) [0, 1, 2] rfl, gEv.warm hW hE⟩⟩ rfl rfl hl.1 rfl (lv_room (Nat.le_of_ble_eq_true rfl)) dL_areRunsSo_102 ⟨Nat.zero_le _, Nat.zero_le _⟩) hP hS (gSub rfl) rfl rfl rfl rfl rfl (fun H locs hP hS => ?_)
          refine lv_if_ne (tgt := 132) hx hb dL_areRunsSo_105 (by decide) (fun c_14 => ?_) (fun c_14 => ?_)
          · have hf := (if_neg c_14).symm.trans hf
            exact J132 Ba Rn Ra Rb Rd x1 x3 x4 x6 hf _ _ hP hS _ (lv_sub hl [0, 1, 2, 3, 5] rfl)
          · have hf := (if_pos c_14).symm.trans hf
            exact J108 Ba Rn Ra Rb Rd x1 x3 x4 x5 x6 hf _ _ hP hS _ (lv_sub hl [0, 1, 2, 3, 4, 5] rfl)
      intro Ba Rn Ra Rb Rd x1 x2 x3 hf H locs hP hS ls hl
      have hf : fL_areRunsSo_B9 N Tn Ta (fL_areRunsSo_H9 N Tn Ta n9) Ba Rn Ra Rb Rd x1 x2 x3 = some (r0, Ba9, Rn9, Ra9, Rb9, Rd9) := hf
      unfold fL_areRunsSo_B9 at hf
      refine lv_iload_n hx hb dL_areRunsSo_9 rfl (lv_at hl 3 rfl) ?_
      refine lv_aload_n hx hb dL_areRunsSo_10 rfl (lv_at hl 0 rfl) ?_
      obtain ⟨⟨r11, Rn11, Ra11, Rb11, Rd11⟩, hc, hf⟩ := bn_some hf
      try dsimp only at hf
      refine g_call0 (ws' := (w_0_1_2_5_6_7_8_9_10 q cI cJ cD Tn Ta Ba Rn11 Ra11 Rb11 Rd11)) (st1 := [.int r11, .int x3]) hq [0, 1, 2, 5, 6, 7, 8, 9, 10] [0, 1, 2, 7, 8, 9, 10] [.inl 0, .inl 1, .inl 2, .inr 3, .inr 4, .inl 3, .inl 4, .inl 5, .inl 6] (va_runV (As := []) (rest := [.int x3]) ⟨hx, hb, hml, hown, hts⟩ (kX8_runs l D cI cJ cD q hq N Tn Ta Rn Ra Rb Rd r11 Rn11 Ra11 Rb11 Rd11 hc) (cwV 0 hts gL_areRunsSo_X8_runs rfl rfl rfl (by decide +kernel) ⟨(Nat.le_of_ble_eq_true rfl), (Nat.le_of_ble_eq_true rfl)⟩) ⟨gP_blind, va_recv hE.1 hP (ci := 6) (q0 := 0) rfl rfl, fun U hU hW => ⟨rfl, by rw [hU]; exact hP.sub (ws' := (w_0_1_2_7_8_9_10 q cI cJ cD Tn Ta Rn Ra Rb Rd)) [0, 1, 2, 5, 6, 7, 8] rfl, gEv.warm hW hE⟩⟩ rfl rfl hl.1 rfl (lv_room (Nat.le_of_ble_eq_true rfl)) dL_areRunsSo_11 ⟨Nat.zero_le _, Nat.zero_le _⟩) hP hS (gSub rfl) rfl rfl rfl rfl rfl (fun H locs hP hS => ?_)
      refine lv_icmp_ge (tgt := 190) hx hb dL_areRunsSo_14 (by decide) (fun c_15 => ?_) (fun c_15 => ?_)
      · have hf := (if_pos c_15).symm.trans hf
        exact J190 Ba Rn11 Ra11 Rb11 Rd11 x2 hf _ _ hP hS _ (lv_sub hl [0, 2] rfl)
      · have hf := (if_neg c_15).symm.trans hf
        refine lv_iload_n hx hb dL_areRunsSo_17 rfl (lv_at hl 2 rfl) ?_
        refine lv_if_eq (tgt := 190) hx hb dL_areRunsSo_18 (by decide) (fun c_16 => ?_) (fun c_16 => ?_)
        · have hf := (if_pos c_16).symm.trans hf
          exact J190 Ba Rn11 Ra11 Rb11 Rd11 x2 hf _ _ hP hS _ (lv_sub hl [0, 2] rfl)
        · have hf := (if_neg c_16).symm.trans hf
          refine lv_aload_n hx hb dL_areRunsSo_21 rfl (lv_at hl 0 rfl) ?_
          refine lv_iload_n hx hb dL_areRunsSo_22 rfl (lv_at hl 3 rfl) ?_
          rcases bx_some hf with ⟨⟨e23, Rn23, Ra23, Rb23, Rd23⟩, hc, hf⟩ | ⟨⟨r23, Rn23, Ra23, Rb23, Rd23⟩, hc, hf⟩
          · exact nomatch hf
          try dsimp only at hf
          refine g_call0 (ws' := (w_0_1_2_5_6_7_8_9_10 q cI cJ cD Tn Ta Ba Rn23 Ra23 Rb23 Rd23)) (st1 := [.int r23]) hq [0, 1, 2, 5, 6, 7, 8, 9, 10] [0, 1, 2, 7, 8, 9, 10] [.inl 0, .inl 1, .inl 2, .inr 3, .inr 4, .inl 3, .inl 4, .inl 5, .inl 6] (va_runV (As := [.int x3]) (rest := []) ⟨hx, hb, hml, hown, hts⟩ (kX8_runStart l D cI cJ cD q hq N Tn Ta Rn11 Ra11 Rb11 Rd11 x3 r23 Rn23 Ra23 Rb23 Rd23 hc) (cwV 1 hts gL_areRunsSo_X8_runStart rfl rfl rfl (by decide +kernel) ⟨(Nat.le_of_ble_eq_true rfl), (Nat.le_of_ble_eq_true rfl)⟩) ⟨gP_blind, va_recv hE.1 hP (ci := 6) (q0 := 0) rfl rfl, fun U hU hW => ⟨rfl, by rw [hU]; exact hP.sub (ws' := (w_0_1_2_7_8_9_10 q cI cJ cD Tn Ta Rn11 Ra11 Rb11 Rd11)) [0, 1, 2, 5, 6, 7, 8] rfl, gEv.warm hW hE⟩⟩ rfl rfl hl.1 rfl (lv_room (Nat.le_of_ble_eq_true rfl)) dL_areRunsSo_23 ⟨Nat.zero_le _, Nat.zero_le _⟩) hP hS (gSub rfl) rfl rfl rfl rfl rfl (fun H locs hP hS => ?_)
          refine lv_istore (lv' := [(4, .int r23), (0, .ref (q 0)), (1, .int x1), (2, .int x2), (3, .int x3)]) hx hb dL_areRunsSo_26 hl (by decide) rfl (fun ls hl => ?_)
          refine lv_aload_n hx hb dL_areRunsSo_28 rfl (lv_at hl 1 rfl) ?_
          refine lv_iload_n hx hb dL_areRunsSo_29 rfl (lv_at hl 4 rfl) ?_
          rcases bx_some hf with ⟨⟨e30, Rn30, Ra30, Rb30, Rd30⟩, hc, hf⟩ | ⟨⟨r30, Rn30, Ra30, Rb30, Rd30⟩, hc, hf⟩
          · exact nomatch hf
          try dsimp only at hf
          refine g_call0 (ws' := (w_0_1_2_5_6_7_8_9_10 q cI cJ cD Tn Ta Ba Rn30 Ra30 Rb30 Rd30)) (st1 := [.int r30]) hq [0, 1, 2, 5, 6, 7, 8, 9, 10] [0, 1, 2, 7, 8, 9, 10] [.inl 0, .inl 1, .inl 2, .inr 3, .inr 4, .inl 3, .inl 4, .inl 5, .inl 6] (va_runV (As := [.int x3]) (rest := []) ⟨hx, hb, hml, hown, hts⟩ (kX8_runEnd l D cI cJ cD q hq N Tn Ta Rn23 Ra23 Rb23 Rd23 x3 r30 Rn30 Ra30 Rb30 Rd30 hc) (cwV 1 hts gL_areRunsSo_X8_runEnd rfl rfl rfl (by decide +kernel) ⟨(Nat.le_of_ble_eq_true rfl), (Nat.le_of_ble_eq_true rfl)⟩) ⟨gP_blind, va_recv hE.1 hP (ci := 6) (q0 := 0) rfl rfl, fun U hU hW => ⟨rfl, by rw [hU]; exact hP.sub (ws' := (w_0_1_2_7_8_9_10 q cI cJ cD Tn Ta Rn23 Ra23 Rb23 Rd23)) [0, 1, 2, 5, 6, 7, 8] rfl, gEv.warm hW hE⟩⟩ rfl rfl hl.1 rfl (lv_room (Nat.le_of_ble_eq_true rfl)) dL_areRunsSo_30 ⟨Nat.zero_le _, Nat.zero_le _⟩) hP hS (gSub rfl) rfl rfl rfl rfl rfl (fun H locs hP hS => ?_)
          refine lv_istore (lv' := [(5, .int r30), (4, .int r23), (0, .ref (q 0)), (1, .int x1), (2, .int x2), (3, .int x3)]) hx hb dL_areRunsSo_33 hl (by decide) rfl (fun ls hl => ?_)
          refine lv_aload_n hx hb dL_areRunsSo_35 rfl (lv_at hl 2 rfl) ?_
          refine lv_iload_n hx hb dL_areRunsSo_36 rfl (lv_at hl 5 rfl) ?_
          rcases bx_some hf with ⟨⟨e37, Rn37, Ra37, Rb37, Rd37⟩, hc, hf⟩ | ⟨⟨r37, Rn37, Ra37, Rb37, Rd37⟩, hc, hf⟩
          · exact nomatch hf
          try dsimp only at hf
          refine g_call0 (ws' := (w_0_1_2_5_6_7_8_9_10 q cI cJ cD Tn Ta Ba Rn37 Ra37 Rb37 Rd37)) (st1 := [.int r37]) hq [0, 1, 2, 5, 6, 7, 8, 9, 10] [0, 1, 2, 7, 8, 9, 10] [.inl 0, .inl 1, .inl 2, .inr 3, .inr 4, .inl 3, .inl 4, .inl 5, .inl 6] (va_runV (As := [.int x3]) (rest := []) ⟨hx, hb, hml, hown, hts⟩ (kX8_runPeriod l D cI cJ cD q hq N Tn Ta Rn30 Ra30 Rb30 Rd30 x3 r37 Rn37 Ra37 Rb37 Rd37 hc) (cwV 1 hts gL_areRunsSo_X8_runPeriod rfl rfl rfl (by decide +kernel) ⟨(Nat.le_of_ble_eq_true rfl), (Nat.le_of_ble_eq_true rfl)⟩) ⟨gP_blind, va_recv hE.1 hP (ci := 6) (q0 := 0) rfl rfl, fun U hU hW => ⟨rfl, by rw [hU]; exact hP.sub (ws' := (w_0_1_2_7_8_9_10 q cI cJ cD Tn Ta Rn30 Ra30 Rb30 Rd30)) [0, 1, 2, 5, 6, 7, 8] rfl, gEv.warm hW hE⟩⟩ rfl rfl hl.1 rfl (lv_room (Nat.le_of_ble_eq_true rfl)) dL_areRunsSo_37 ⟨Nat.zero_le _, Nat.zero_le _⟩) hP hS (gSub rfl) rfl rfl rfl rfl rfl (fun H locs hP hS => ?_)
          refine lv_istore (lv' := [(6, .int r37), (5, .int r30), (4, .int r23), (0, .ref (q 0)), (1, .int x1), (2, .int x2), (3, .int x3)]) hx hb dL_areRunsSo_40 hl (by decide) rfl (fun ls hl => ?_)
          refine lv_aload_n hx hb dL_areRunsSo_42 rfl (lv_at hl 3 rfl) ?_
          refine lv_iload hx hb dL_areRunsSo_43 (lv_at hl 2 rfl) ?_
          refine lv_iload hx hb dL_areRunsSo_45 (lv_at hl 1 rfl) ?_
          rcases bx_some hf with ⟨⟨e47, Ba47⟩, hc, hf⟩ | ⟨⟨r47, Ba47⟩, hc, hf⟩
          · exact nomatch hf
          try dsimp only at hf
          refine g_call0 (ws' := (w_0_1_2_5_6_7_8_9_10 q cI cJ cD Tn Ta Ba47 Rn37 Ra37 Rb37 Rd37)) (st1 := [.int r47]) hq [0, 1, 2, 5, 6, 7, 8, 9, 10] [0, 1, 2, 5, 6] [.inl 0, .inl 1, .inl 2, .inl 3, .inl 4, .inr 5, .inr 6, .inr 7, .inr 8] (va_runV (As := [.int r23, .int r30]) (rest := []) ⟨hx, hb, hml, hown, hts⟩ (kX8_period l D cI cJ cD q hq N Tn Ta Ba r23 r30 r47 Ba47 hc) (cwV 2 hts gL_areRunsSo_X8_period rfl rfl rfl (by decide +kernel) ⟨(Nat.le_of_ble_eq_true rfl), (Nat.le_of_ble_eq_true rfl)⟩) ⟨gP_blind, va_recv hE.1 hP (ci := 6) (q0 := 0) rfl rfl, fun U hU hW => ⟨rfl, by rw [hU]; exact hP.sub (ws' := (w_0_1_2_5_6 q cI cJ cD Tn Ta Ba)) [0, 1, 2, 3, 4] rfl, gEv.warm hW hE⟩⟩ rfl rfl hl.1 rfl (lv_room (Nat.le_of_ble_eq_true rfl)) dL_areRunsSo_47 ⟨Nat.zero_le _, Nat.zero_le _⟩) hP hS (gSub rfl) rfl rfl rfl rfl rfl (fun H locs hP hS => ?_)
          refine lv_iload hx hb dL_areRunsSo_50 (lv_at hl 0 rfl) ?_
          refine lv_icmp_ne (tgt := 132) hx hb dL_areRunsSo_52 (by decide) (fun c_17 => ?_) (fun c_17 => ?_)
          · have hf := (if_neg c_17).symm.trans hf
            exact J132 Ba47 Rn37 Ra37 Rb37 Rd37 x1 x3 r23 r37 hf _ _ hP hS _ (lv_sub hl [3, 4, 6, 2, 0] rfl)
          · have hf := (if_pos c_17).symm.trans hf
            refine lv_iload hx hb dL_areRunsSo_55 (lv_at hl 1 rfl) ?_
            refine lv_iload hx hb dL_areRunsSo_57 (lv_at hl 2 rfl) ?_
            refine lv_isub hx hb dL_areRunsSo_59 ?_
            refine lv_iconst (v := (2 : Int32)) hx hb dL_areRunsSo_60 (by decide) ?_
            refine lv_iload hx hb dL_areRunsSo_61 (lv_at hl 0 rfl) ?_
            refine lv_imul hx hb dL_areRunsSo_63 ?_
            refine lv_icmp_lt (tgt := 132) hx hb dL_areRunsSo_64 (by decide) (fun c_18 => ?_) (fun c_18 => ?_)
            · have hf := (if_pos c_18).symm.trans hf
              exact J132 Ba47 Rn37 Ra37 Rb37 Rd37 x1 x3 r23 r37 hf _ _ hP hS _ (lv_sub hl [3, 4, 6, 2, 0] rfl)
            · have hf := (if_neg c_18).symm.trans hf
              refine lv_iload hx hb dL_areRunsSo_67 (lv_at hl 2 rfl) ?_
              refine lv_if_eq (tgt := 87) hx hb dL_areRunsSo_69 (by decide) (fun c_19 => ?_) (fun c_19 => ?_)
              · have hf := (if_pos c_19).symm.trans hf
                exact J87 Ba47 Rn37 Ra37 Rb37 Rd37 x1 x3 r23 r30 r37 hf _ _ hP hS _ (lv_sub hl [3, 4, 6, 2, 1, 0] rfl)
              · have hf := (if_neg c_19).symm.trans hf
                refine lv_aload_n hx hb dL_areRunsSo_72 rfl (lv_at hl 3 rfl) ?_
                refine lv_iload hx hb dL_areRunsSo_73 (lv_at hl 2 rfl) ?_
                refine lv_iconst (v := (1 : Int32)) hx hb dL_areRunsSo_75 (by decide) ?_
                refine lv_isub hx hb dL_areRunsSo_76 ?_
                refine lv_iload hx hb dL_areRunsSo_77 (lv_at hl 1 rfl) ?_
                refine lv_iload hx hb dL_areRunsSo_79 (lv_at hl 0 rfl) ?_
                rcases bx_some hf with ⟨e81, hc, hf⟩ | ⟨r81, hc, hf⟩
                · exact nomatch hf
                try dsimp only at hf
                refine g_call0 (ws' := (w_0_1_2_5_6_7_8_9_10 q cI cJ cD Tn Ta Ba47 Rn37 Ra37 Rb37 Rd37)) (st1 := [.int r81]) hq [0, 1, 2, 5, 6, 7, 8, 9, 10] [0, 1, 2] [.inl 0, .inl 1, .inl 2, .inr 3, .inr 4, .inr 5, .inr 6, .inr 7, .inr 8] (va_runV (As := [.int (r23 - (1 : Int32)), .int r30, .int r37]) (rest := []) ⟨hx, hb, hml, hown, hts⟩ (kX8_isPeriod l D cI cJ cD q hq N Tn Ta (r23 - (1 : Int32)) r30 r37 r81 hc) (cwV 3 hts gL_areRunsSo_X8_isPeriod rfl rfl rfl (by decide +kernel) ⟨(Nat.le_of_ble_eq_true rfl), (Nat.le_of_ble_eq_true rfl)⟩) ⟨gP_blind, va_recv hE.1 hP (ci := 6) (q0 := 0) rfl rfl, fun U hU hW => ⟨rfl, by rw [hU]; exact hP.sub (ws' := (w_0_1_2 q cI cJ cD Tn Ta)) [0, 1, 2] rfl, gEv.warm hW hE⟩⟩ rfl rfl hl.1 rfl (lv_room (Nat.le_of_ble_eq_true rfl)) dL_areRunsSo_81 ⟨Nat.zero_le _, Nat.zero_le _⟩) hP hS (gSub rfl) rfl rfl rfl rfl rfl (fun H locs hP hS => ?_)
                refine lv_if_ne (tgt := 132) hx hb dL_areRunsSo_84 (by decide) (fun c_20 => ?_) (fun c_20 => ?_)
                · have hf := (if_neg c_20).symm.trans hf
                  exact J132 Ba47 Rn37 Ra37 Rb37 Rd37 x1 x3 r23 r37 hf _ _ hP hS _ (lv_sub hl [3, 4, 6, 2, 0] rfl)
                · have hf := (if_pos c_20).symm.trans hf
                  exact J87 Ba47 Rn37 Ra37 Rb37 Rd37 x1 x3 r23 r30 r37 hf _ _ hP hS _ (lv_sub hl [3, 4, 6, 2, 1, 0] rfl)
  unfold fL_areRunsSo at hf
  refine lv_aload_n hx hb dL_areRunsSo_0 rfl (lv_at hl 0 rfl) ?_
  obtain ⟨r1, hc, hf⟩ := bn_some hf
  try dsimp only at hf
  refine g_call0 (ws' := (w_0_1_2_5_6_7_8_9_10 q cI cJ cD Tn Ta Ba Rn Ra Rb Rd)) (st1 := [.int r1]) hq [0, 1, 2, 5, 6, 7, 8, 9, 10] [0, 1] [.inl 0, .inl 1, .inr 2, .inr 3, .inr 4, .inr 5, .inr 6, .inr 7, .inr 8] (va_runV (As := []) (rest := []) ⟨hx, hb, hml, hown, hts⟩ (kX8_length l D cI cJ cD q hq N Tn r1 hc) (cwV 0 hts gL_areRunsSo_X8_length rfl rfl rfl (by decide +kernel) ⟨(Nat.le_of_ble_eq_true rfl), (Nat.le_of_ble_eq_true rfl)⟩) ⟨gP_blind, va_recv hE.1 hP (ci := 6) (q0 := 0) rfl rfl, fun U hU hW => ⟨rfl, by rw [hU]; exact hP.sub (ws' := (w_0_1 q cI cJ cD Tn)) [0, 1] rfl, gEv.warm hW hE⟩⟩ rfl rfl hl.1 rfl (lv_room (Nat.le_of_ble_eq_true rfl)) dL_areRunsSo_1 ⟨Nat.zero_le _, Nat.zero_le _⟩) hP hS (gSub rfl) rfl rfl rfl rfl rfl (fun H locs hP hS => ?_)
  refine lv_istore_n (lv' := [(1, .int r1), (0, .ref (q 0))]) hx hb dL_areRunsSo_4 rfl hl (by decide) rfl (fun ls hl => ?_)
  refine lv_iconst (v := (1 : Int32)) hx hb dL_areRunsSo_5 (by decide) ?_
  refine lv_istore_n (lv' := [(2, .int (1 : Int32)), (1, .int r1), (0, .ref (q 0))]) hx hb dL_areRunsSo_6 rfl hl (by decide) rfl (fun ls hl => ?_)
  refine lv_iconst (v := (0 : Int32)) hx hb dL_areRunsSo_7 (by decide) ?_
  refine lv_istore_n (lv' := [(3, .int (0 : Int32)), (2, .int (1 : Int32)), (1, .int r1), (0, .ref (q 0))]) hx hb dL_areRunsSo_8 rfl hl (by decide) rfl (fun ls hl => ?_)
  exact K9 N Ba Rn Ra Rb Rd r1 (1 : Int32) (0 : Int32) hf _ _ hP hS _ (lv_sub hl [3, 2, 1, 0] rfl)
