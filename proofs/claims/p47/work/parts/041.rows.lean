set_option maxHeartbeats 4000000 in
set_option maxRecDepth 100000 in
theorem kX1_firstLength (l : Launch) (D : va_G) (cI cJ cD : ClassId) (q : Nat → Nat) (hq : gInj 14 q) (N : Nat) (Tn : Int32) (Ta : (Nat → Int32)) (p1 : Int32) (p2 : Int32) (p3 : Int32) (r0 : Int32) (hf : fX1_firstLength N Tn Ta p1 p2 p3 = some r0) : Met l yX1_firstLength wsX1_firstLength rX1_firstLength (gP D cI cJ cD [.ref (q 1), .int p1, .int p2, .int p3] (w_1_2 q cI cJ cD Tn Ta)) (gQ D (some (.int r0)) (w_1_2 q cI cJ cD Tn Ta) (gA q [1, 2])) 0 0 (gA q [1, 2]) := by
  refine Met.ofW (cc := cX1_firstLength) (maxL := 7) (ret := (some .int)) (by decide +kernel) rfl ?_
  intro p e s m args below meth c s₁ B hml hv
  obtain ⟨rfl, hP, hE⟩ := hv
  have hx := B.exec
  have hb := B.bytes
  have hr := B.returns
  have hts := atoms_spec (ws := wsX1_firstLength) B.pre
  have hown : s.vm.findClass RX1 = some m.cls := findClass_of_methodNamed B.named
  have hlocks := B.notSynchronized
  have hS : va_S (gA q [1, 2]) s.heap s.heap [] := va_S.rf
  have hl := lv_entry ([.ref (q 1), .int p1, .int p2, .int p3]) (n := 7) (Nat.le_of_ble_eq_true rfl)
  rw [lg_entry_eq]
  generalize (lg_sl ([.ref (q 1), .int p1, .int p2, .int p3]) ++ List.replicate (7 - (lg_sl ([.ref (q 1), .int p1, .int p2, .int p3])).length) Slot.unset).toArray = ls at hl ⊢
  have hl : lv_has ls 7 [(0, .ref (q 1)), (1, .int p1), (2, .int p2), (3, .int p3)] := hl
  have J68 : ∀ (x4 : Int32), fX1_firstLength_J68 N Tn Ta x4 = some r0 → ∀ (H : Heap) (locs : List Loc), va_P D vwCl (w_1_2 q cI cJ cD Tn Ta) H → va_S (gA q [1, 2]) s.heap H locs → ∀ ls : Array Slot, lv_has ls 7 [(4, .int x4)] → W p l e (headSpec wsX1_firstLength rX1_firstLength).room s m ([.ref (q 1), .int p1, .int p2, .int p3] : List Value).toArray below meth c H locs 0 0 (MQ below (gQ D (some (.int r0)) (w_1_2 q cI cJ cD Tn Ta) (gA q [1, 2])) ([.ref (q 1), .int p1, .int p2, .int p3] : List Value).toArray s 0 0 (gA q [1, 2])) (F0 m 68 ls []) := by
    intro x4 hf H locs hP hS ls hl
    unfold fX1_firstLength_J68 at hf
    refine lv_iload hx hb dX1_firstLength_68 (lv_at hl 0 rfl) ?_
    cases hf
    exact W.iret hx hb hr (fun t ht hW => ⟨⟨rfl, by rw [ht]; exact hP⟩, hS.F ht⟩) hS.2.2 dX1_firstLength_70
  have J46 : ∀ (x4 : Int32), fX1_firstLength_J46 N Tn Ta x4 = some r0 → ∀ (H : Heap) (locs : List Loc), va_P D vwCl (w_1_2 q cI cJ cD Tn Ta) H → va_S (gA q [1, 2]) s.heap H locs → ∀ ls : Array Slot, lv_has ls 7 [(4, .int x4)] → W p l e (headSpec wsX1_firstLength rX1_firstLength).room s m ([.ref (q 1), .int p1, .int p2, .int p3] : List Value).toArray below meth c H locs 0 0 (MQ below (gQ D (some (.int r0)) (w_1_2 q cI cJ cD Tn Ta) (gA q [1, 2])) ([.ref (q 1), .int p1, .int p2, .int p3] : List Value).toArray s 0 0 (gA q [1, 2])) (F0 m 46 ls []) := by
    intro x4 hf H locs hP hS ls hl
    unfold fX1_firstLength_J46 at hf
    refine lv_iload hx hb dX1_firstLength_46 (lv_at hl 0 rfl) ?_
    cases hf
    exact W.iret hx hb hr (fun t ht hW => ⟨⟨rfl, by rw [ht]; exact hP⟩, hS.F ht⟩) hS.2.2 dX1_firstLength_48
  have K8 : ∀ (n8 : Nat) (x1 : Int32) (x2 : Int32) (x3 : Int32) (x4 : Int32) (x5 : Int32), fX1_firstLength_H8 N Tn Ta n8 x1 x2 x3 x4 x5 = some r0 → ∀ (H : Heap) (locs : List Loc), va_P D vwCl (w_1_2 q cI cJ cD Tn Ta) H → va_S (gA q [1, 2]) s.heap H locs → ∀ ls : Array Slot, lv_has ls 7 [(0, .ref (q 1)), (1, .int x1), (2, .int x2), (3, .int x3), (4, .int x4), (5, .int x5)] → W p l e (headSpec wsX1_firstLength rX1_firstLength).room s m ([.ref (q 1), .int p1, .int p2, .int p3] : List Value).toArray below meth c H locs 0 0 (MQ below (gQ D (some (.int r0)) (w_1_2 q cI cJ cD Tn Ta) (gA q [1, 2])) ([.ref (q 1), .int p1, .int p2, .int p3] : List Value).toArray s 0 0 (gA q [1, 2])) (F0 m 8 ls []) := by
    intro n8
    induction n8 with
    | zero =>
      intro x1 x2 x3 x4 x5 hf
      exact nomatch (show (none : Option Int32) = some r0 from hf)
    | succ n8 ih8 =>
      have J62 : ∀ (x1 : Int32) (x2 : Int32) (x3 : Int32) (x4 : Int32) (x5 : Int32), fX1_firstLength_J62 N Tn Ta (fX1_firstLength_H8 N Tn Ta n8) x1 x2 x3 x4 x5 = some r0 → ∀ (H : Heap) (locs : List Loc), va_P D vwCl (w_1_2 q cI cJ cD Tn Ta) H → va_S (gA q [1, 2]) s.heap H locs → ∀ ls : Array Slot, lv_has ls 7 [(0, .ref (q 1)), (1, .int x1), (2, .int x2), (3, .int x3), (4, .int x4), (5, .int x5)] → W p l e (headSpec wsX1_firstLength rX1_firstLength).room s m ([.ref (q 1), .int p1, .int p2, .int p3] : List Value).toArray below meth c H locs 0 0 (MQ below (gQ D (some (.int r0)) (w_1_2 q cI cJ cD Tn Ta) (gA q [1, 2])) ([.ref (q 1), .int p1, .int p2, .int p3] : List Value).toArray s 0 0 (gA q [1, 2])) (F0 m 62 ls []) := by
        intro x1 x2 x3 x4 x5 hf H locs hP hS ls hl
        unfold fX1_firstLength_J62 at hf
        refine lv_iinc (v := (x5 + 1)) (lv' := [(5, .int (x5 + 1)), (0, .ref (q 1)), (1, .int x1), (2, .int x2), (3, .int x3), (4, .int x4)]) hx hb dX1_firstLength_62 hl (k := 5) rfl rfl (by decide) rfl (fun ls hl => ?_)
        refine lv_goto (tgt := 8) hx hb dX1_firstLength_65 (by decide) ?_
        exact ih8 x1 x2 x3 x4 (x5 + 1) hf _ _ hP hS _ (lv_sub hl [1, 2, 3, 4, 5, 0] rfl)
      have J41 : ∀ (x1 : Int32) (x2 : Int32) (x3 : Int32) (x4 : Int32) (x5 : Int32) (x6 : Int32), fX1_firstLength_J41 N Tn Ta (fX1_firstLength_H8 N Tn Ta n8) x1 x2 x3 x4 x5 x6 = some r0 → ∀ (H : Heap) (locs : List Loc), va_P D vwCl (w_1_2 q cI cJ cD Tn Ta) H → va_S (gA q [1, 2]) s.heap H locs → ∀ ls : Array Slot, lv_has ls 7 [(0, .ref (q 1)), (1, .int x1), (2, .int x2), (3, .int x3), (4, .int x4), (5, .int x5), (6, .int x6)] → W p l e (headSpec wsX1_firstLength rX1_firstLength).room s m ([.ref (q 1), .int p1, .int p2, .int p3] : List Value).toArray below meth c H locs 0 0 (MQ below (gQ D (some (.int r0)) (w_1_2 q cI cJ cD Tn Ta) (gA q [1, 2])) ([.ref (q 1), .int p1, .int p2, .int p3] : List Value).toArray s 0 0 (gA q [1, 2])) (F0 m 41 ls []) := by
        intro x1 x2 x3 x4 x5 x6 hf H locs hP hS ls hl
        unfold fX1_firstLength_J41 at hf
        refine lv_iload hx hb dX1_firstLength_41 (lv_at hl 6 rfl) ?_
        refine lv_if_ge (tgt := 49) hx hb dX1_firstLength_43 (by decide) (fun c_1 => ?_) (fun c_1 => ?_)
        · have hf := (if_pos c_1).symm.trans hf
          refine lv_iload hx hb dX1_firstLength_49 (lv_at hl 6 rfl) ?_
          refine lv_if_le (tgt := 62) hx hb dX1_firstLength_51 (by decide) (fun c_2 => ?_) (fun c_2 => ?_)
          · have hf := (if_pos c_2).symm.trans hf
            exact J62 x1 x2 x3 x4 x5 hf _ _ hP hS _ (lv_sub hl [0, 1, 2, 3, 4, 5] rfl)
          · have hf := (if_neg c_2).symm.trans hf
            refine lv_iload hx hb dX1_firstLength_54 (lv_at hl 5 rfl) ?_
            refine lv_iconst (v := (1 : Int32)) hx hb dX1_firstLength_56 (by decide) ?_
            refine lv_iadd hx hb dX1_firstLength_57 ?_
            refine lv_iload_n hx hb dX1_firstLength_58 rfl (lv_at hl 1 rfl) ?_
            refine lv_isub hx hb dX1_firstLength_59 ?_
            refine lv_istore (lv' := [(4, .int ((x5 + (1 : Int32)) - x1)), (0, .ref (q 1)), (1, .int x1), (2, .int x2), (3, .int x3), (5, .int x5), (6, .int x6)]) hx hb dX1_firstLength_60 hl (by decide) rfl (fun ls hl => ?_)
            exact J62 x1 x2 x3 ((x5 + (1 : Int32)) - x1) x5 hf _ _ hP hS _ (lv_sub hl [1, 2, 3, 4, 0, 5] rfl)
        · have hf := (if_neg c_1).symm.trans hf
          exact J46 x4 hf _ _ hP hS _ (lv_sub hl [4] rfl)
      intro x1 x2 x3 x4 x5 hf H locs hP hS ls hl
      have hf : fX1_firstLength_B8 N Tn Ta (fX1_firstLength_H8 N Tn Ta n8) x1 x2 x3 x4 x5 = some r0 := hf
      unfold fX1_firstLength_B8 at hf
      refine lv_iload hx hb dX1_firstLength_8 (lv_at hl 5 rfl) ?_
      refine lv_iload_n hx hb dX1_firstLength_10 rfl (lv_at hl 2 rfl) ?_
      refine lv_icmp_ge (tgt := 68) hx hb dX1_firstLength_11 (by decide) (fun c_3 => ?_) (fun c_3 => ?_)
      · have hf := (if_pos c_3).symm.trans hf
        exact J68 x4 hf _ _ hP hS _ (lv_sub hl [4] rfl)
      · have hf := (if_neg c_3).symm.trans hf
        refine lv_aload_n hx hb dX1_firstLength_14 rfl (lv_at hl 0 rfl) ?_
        refine lv_iload hx hb dX1_firstLength_15 (lv_at hl 5 rfl) ?_
        obtain ⟨r17, hc, hf⟩ := bn_some hf
        try dsimp only at hf
        refine g_call0 (ws' := (w_1_2 q cI cJ cD Tn Ta)) (st1 := [.int r17]) hq [1, 2] [1, 2] [.inl 0, .inl 1] (va_runV (As := [.int x5]) (rest := []) ⟨hx, hb, hml, hown, hts⟩ (kX2_letter l D cI cJ cD q hq N Tn Ta x5 r17 hc) (cwV 1 hts gX1_firstLength_X2_letter rfl rfl rfl (by decide +kernel) ⟨(Nat.le_of_ble_eq_true rfl), (Nat.le_of_ble_eq_true rfl)⟩) ⟨gP_blind, va_recv hE.1 hP (ci := 2) (q0 := 0) rfl rfl, fun U hU hW => ⟨rfl, by rw [hU]; exact hP.sub (ws' := (w_1_2 q cI cJ cD Tn Ta)) [0, 1] rfl, gEv.warm hW hE⟩⟩ rfl rfl hl.1 rfl (lv_room (Nat.le_of_ble_eq_true rfl)) dX1_firstLength_17 ⟨Nat.zero_le _, Nat.zero_le _⟩) hP hS (gSub rfl) rfl rfl rfl rfl rfl (fun H locs hP hS => ?_)
        refine lv_aload_n hx hb dX1_firstLength_20 rfl (lv_at hl 0 rfl) ?_
        refine lv_iload hx hb dX1_firstLength_21 (lv_at hl 5 rfl) ?_
        refine lv_iload hx hb dX1_firstLength_23 (lv_at hl 4 rfl) ?_
        refine lv_isub hx hb dX1_firstLength_25 ?_
        obtain ⟨r26, hc, hf⟩ := bn_some hf
        try dsimp only at hf
        refine g_call0 (ws' := (w_1_2 q cI cJ cD Tn Ta)) (st1 := [.int r26, .int r17]) hq [1, 2] [1, 2] [.inl 0, .inl 1] (va_runV (As := [.int (x5 - x4)]) (rest := [.int r17]) ⟨hx, hb, hml, hown, hts⟩ (kX2_letter l D cI cJ cD q hq N Tn Ta (x5 - x4) r26 hc) (cwV 1 hts gX1_firstLength_X2_letter rfl rfl rfl (by decide +kernel) ⟨(Nat.le_of_ble_eq_true rfl), (Nat.le_of_ble_eq_true rfl)⟩) ⟨gP_blind, va_recv hE.1 hP (ci := 2) (q0 := 0) rfl rfl, fun U hU hW => ⟨rfl, by rw [hU]; exact hP.sub (ws' := (w_1_2 q cI cJ cD Tn Ta)) [0, 1] rfl, gEv.warm hW hE⟩⟩ rfl rfl hl.1 rfl (lv_room (Nat.le_of_ble_eq_true rfl)) dX1_firstLength_26 ⟨Nat.zero_le _, Nat.zero_le _⟩) hP hS (gSub rfl) rfl rfl rfl rfl rfl (fun H locs hP hS => ?_)
        refine lv_isub hx hb dX1_firstLength_29 ?_
        refine lv_istore (lv' := [(6, .int (r17 - r26)), (0, .ref (q 1)), (1, .int x1), (2, .int x2), (3, .int x3), (4, .int x4), (5, .int x5)]) hx hb dX1_firstLength_30 hl (by decide) rfl (fun ls hl => ?_)
        refine lv_iload_n hx hb dX1_firstLength_32 rfl (lv_at hl 4 rfl) ?_
        refine lv_if_eq (tgt := 41) hx hb dX1_firstLength_33 (by decide) (fun c_4 => ?_) (fun c_4 => ?_)
        · have hf := (if_pos c_4).symm.trans hf
          exact J41 x1 x2 x3 x4 x5 (r17 - r26) hf _ _ hP hS _ (lv_sub hl [1, 2, 3, 4, 5, 6, 0] rfl)
        · have hf := (if_neg c_4).symm.trans hf
          refine lv_iload hx hb dX1_firstLength_36 (lv_at hl 0 rfl) ?_
          refine lv_ineg hx hb dX1_firstLength_38 ?_
          refine lv_istore (lv' := [(6, .int (-(r17 - r26))), (0, .ref (q 1)), (1, .int x1), (2, .int x2), (3, .int x3), (4, .int x4), (5, .int x5)]) hx hb dX1_firstLength_39 hl (by decide) rfl (fun ls hl => ?_)
          exact J41 x1 x2 x3 x4 x5 (-(r17 - r26)) hf _ _ hP hS _ (lv_sub hl [1, 2, 3, 4, 5, 6, 0] rfl)
  unfold fX1_firstLength at hf
  refine lv_iconst (v := (1 : Int32)) hx hb dX1_firstLength_0 (by decide) ?_
  refine lv_istore (lv' := [(4, .int (1 : Int32)), (0, .ref (q 1)), (1, .int p1), (2, .int p2), (3, .int p3)]) hx hb dX1_firstLength_1 hl (by decide) rfl (fun ls hl => ?_)
  refine lv_iload_n hx hb dX1_firstLength_3 rfl (lv_at hl 2 rfl) ?_
  refine lv_iconst (v := (1 : Int32)) hx hb dX1_firstLength_4 (by decide) ?_
  refine lv_iadd hx hb dX1_firstLength_5 ?_
  refine lv_istore (lv' := [(5, .int (p1 + (1 : Int32))), (4, .int (1 : Int32)), (0, .ref (q 1)), (1, .int p1), (2, .int p2), (3, .int p3)]) hx hb dX1_firstLength_6 hl (by decide) rfl (fun ls hl => ?_)
  exact K8 N p1 p2 p3 (1 : Int32) (p1 + (1 : Int32)) hf _ _ hP hS _ (lv_sub hl [2, 3, 4, 5, 1, 0] rfl)
set_option maxHeartbeats 4000000 in
set_option maxRecDepth 100000 in
theorem kX1_isOneFactor (l : Launch) (D : va_G) (cI cJ cD : ClassId) (q : Nat → Nat) (hq : gInj 14 q) (N : Nat) (Tn : Int32) (Ta : (Nat → Int32)) (p1 : Int32) (p2 : Int32) (r0 : Int32) (hf : fX1_isOneFactor N Tn Ta p1 p2 = some r0) : Met l yX1_isOneFactor wsX1_isOneFactor rX1_isOneFactor (gP D cI cJ cD [.ref (q 1), .int p1, .int p2] (w_1_2 q cI cJ cD Tn Ta)) (gQ D (some (.int r0)) (w_1_2 q cI cJ cD Tn Ta) (gA q [1, 2])) 0 0 (gA q [1, 2]) := by
  refine Met.ofW (cc := cX1_isOneFactor) (maxL := 3) (ret := (some .boolean)) (by decide +kernel) rfl ?_
  intro p e s m args below meth c s₁ B hml hv
  obtain ⟨rfl, hP, hE⟩ := hv
  have hx := B.exec
  have hb := B.bytes
  have hr := B.returns
  have hts := atoms_spec (ws := wsX1_isOneFactor) B.pre
  have hown : s.vm.findClass RX1 = some m.cls := findClass_of_methodNamed B.named
  have hlocks := B.notSynchronized
  have hS : va_S (gA q [1, 2]) s.heap s.heap [] := va_S.rf
  have hl := lv_entry ([.ref (q 1), .int p1, .int p2]) (n := 3) (Nat.le_of_ble_eq_true rfl)
  rw [lg_entry_eq]
  generalize (lg_sl ([.ref (q 1), .int p1, .int p2]) ++ List.replicate (3 - (lg_sl ([.ref (q 1), .int p1, .int p2])).length) Slot.unset).toArray = ls at hl ⊢
  have hl : lv_has ls 3 [(0, .ref (q 1)), (1, .int p1), (2, .int p2)] := hl
  have J18 : ∀ (y0 : Int32), fX1_isOneFactor_J18 N Tn Ta y0 = some r0 → ∀ (H : Heap) (locs : List Loc), va_P D vwCl (w_1_2 q cI cJ cD Tn Ta) H → va_S (gA q [1, 2]) s.heap H locs → ∀ ls : Array Slot, lv_has ls 3 [] → W p l e (headSpec wsX1_isOneFactor rX1_isOneFactor).room s m ([.ref (q 1), .int p1, .int p2] : List Value).toArray below meth c H locs 0 0 (MQ below (gQ D (some (.int r0)) (w_1_2 q cI cJ cD Tn Ta) (gA q [1, 2])) ([.ref (q 1), .int p1, .int p2] : List Value).toArray s 0 0 (gA q [1, 2])) (F0 m 18 ls [.int y0]) := by
    intro y0 hf H locs hP hS ls hl
    unfold fX1_isOneFactor_J18 at hf
    obtain ⟨g_1, hf⟩ := gd_some hf
    cases hf
    exact W.zret (ty := .boolean) hx hb hr (isB_nar g_1) (fun t ht hW => ⟨⟨rfl, by rw [ht]; exact hP⟩, hS.F ht⟩) hS.2.2 dX1_isOneFactor_18
  unfold fX1_isOneFactor at hf
  refine lv_aload_n hx hb dX1_isOneFactor_0 rfl (lv_at hl 0 rfl) ?_
  refine lv_iload_n hx hb dX1_isOneFactor_1 rfl (lv_at hl 1 rfl) ?_
  refine lv_iload_n hx hb dX1_isOneFactor_2 rfl (lv_at hl 2 rfl) ?_
  refine lv_iconst (v := (0 : Int32)) hx hb dX1_isOneFactor_3 (by decide) ?_
  obtain ⟨r4, hc, hf⟩ := bn_some hf
  try dsimp only at hf
  refine g_call0 (ws' := (w_1_2 q cI cJ cD Tn Ta)) (st1 := [.int r4]) hq [1, 2] [1, 2] [.inl 0, .inl 1] (va_runS (As := [.ref (q 1), .int p1, .int p2, .int (0 : Int32)]) (rest := []) ⟨hx, hb, hml, hown, hts⟩ (kX1_firstLength l D cI cJ cD q hq N Tn Ta p1 p2 (0 : Int32) r4 hc) (va_cwS 4 hts gX1_isOneFactor_X1_firstLength rfl rfl rfl (by decide +kernel) ⟨(Nat.le_of_ble_eq_true rfl), (Nat.le_of_ble_eq_true rfl)⟩) ⟨gP_blind, fun U hU hW => ⟨rfl, by rw [hU]; exact hP.sub (ws' := (w_1_2 q cI cJ cD Tn Ta)) [0, 1] rfl, gEv.warm hW hE⟩⟩ rfl rfl hl.1 rfl (lv_room (Nat.le_of_ble_eq_true rfl)) dX1_isOneFactor_4 ⟨Nat.zero_le _, Nat.zero_le _⟩) hP hS (gSub rfl) rfl rfl rfl rfl rfl (fun H locs hP hS => ?_)
  refine lv_iload_n hx hb dX1_isOneFactor_7 rfl (lv_at hl 2 rfl) ?_
  refine lv_iload_n hx hb dX1_isOneFactor_8 rfl (lv_at hl 1 rfl) ?_
  refine lv_isub hx hb dX1_isOneFactor_9 ?_
  refine lv_icmp_ne (tgt := 17) hx hb dX1_isOneFactor_10 (by decide) (fun c_2 => ?_) (fun c_2 => ?_)
  · have hf := (if_neg c_2).symm.trans hf
    refine lv_iconst (v := (0 : Int32)) hx hb dX1_isOneFactor_17 (by decide) ?_
    exact J18 (0 : Int32) hf _ _ hP hS _ (lv_sub hl [] rfl)
  · have hf := (if_pos c_2).symm.trans hf
    refine lv_iconst (v := (1 : Int32)) hx hb dX1_isOneFactor_13 (by decide) ?_
    refine lv_goto (tgt := 18) hx hb dX1_isOneFactor_14 (by decide) ?_
    exact J18 (1 : Int32) hf _ _ hP hS _ (lv_sub hl [] rfl)
set_option maxHeartbeats 4000000 in
set_option maxRecDepth 100000 in
theorem kX1_find (l : Launch) (D : va_G) (cI cJ cD : ClassId) (q : Nat → Nat) (hq : gInj 14 q) (N : Nat) (Tn : Int32) (Ta : (Nat → Int32)) (Fn : Int32) (Fa : (Nat → Int32)) (Fn9 : Int32) (Fa9 : (Nat → Int32)) (hf : fX1_find N Tn Ta Fn Fa = some (Fn9, Fa9)) : Met l yX1_find wsX1_find rX1_find (gP D cI cJ cD [.ref (q 3), .ref (q 1)] (w_1_2_3_4 q cI cJ cD Tn Ta Fn Fa)) (gQ D none (w_1_2_3_4 q cI cJ cD Tn Ta Fn9 Fa9) (gA q [1, 2, 3, 4])) 0 0 (gA q [1, 2, 3, 4]) := by
  refine Met.ofW (cc := cX1_find) (maxL := 3) (ret := none) (by decide +kernel) rfl ?_
  intro p e s m args below meth c s₁ B hml hv
  obtain ⟨rfl, hP, hE⟩ := hv
  have hx := B.exec
  have hb := B.bytes
  have hr := B.returns
  have hts := atoms_spec (ws := wsX1_find) B.pre
  have hown : s.vm.findClass RX1 = some m.cls := findClass_of_methodNamed B.named
  have hlocks := B.notSynchronized
  have hS : va_S (gA q [1, 2, 3, 4]) s.heap s.heap [] := va_S.rf
  have hl := lv_entry ([.ref (q 3), .ref (q 1)]) (n := 3) (Nat.le_of_ble_eq_true rfl)
  rw [lg_entry_eq]
  generalize (lg_sl ([.ref (q 3), .ref (q 1)]) ++ List.replicate (3 - (lg_sl ([.ref (q 3), .ref (q 1)])).length) Slot.unset).toArray = ls at hl ⊢
  have hl : lv_has ls 3 [(0, .ref (q 3)), (1, .ref (q 1))] := hl
  have hDm : ∀ (z0 : Int32) (z1 : (Nat → Int32)) (z2 : Int32) (z3 : (Nat → Int32)), va_D (gA q [1, 2, 3, 4]) (w_1_2_3_4 q cI cJ cD z0 z1 z2 z3) := fun _ _ _ _ => gD_of hq [1, 2, 3, 4] rfl rfl rfl (fun k h => ⟨k, h, rfl⟩)
  have hk15 := hts (.fieldLink RX1 15 "LyndonText$Factors" "count" "I") (by decide +kernel)
  have hk9 := hts (.fieldLink RX1 9 "LyndonText$Factors" "starts" "[I") (by decide +kernel)
  have huX1 : ∀ w ∈ u_ws RX1 TX1 2, w ∈ wsX1_find := by decide +kernel
  have J62 : ∀ (Fn : Int32) (Fa : (Nat → Int32)), fX1_find_J62 N Tn Ta Fn Fa = some (Fn9, Fa9) → ∀ (H : Heap) (locs : List Loc), va_P D vwCl (w_1_2_3_4 q cI cJ cD Tn Ta Fn Fa) H → va_S (gA q [1, 2, 3, 4]) s.heap H locs → ∀ ls : Array Slot, lv_has ls 3 [(0, .ref (q 3)), (1, .ref (q 1))] → W p l e (headSpec wsX1_find rX1_find).room s m ([.ref (q 3), .ref (q 1)] : List Value).toArray below meth c H locs 0 0 (MQ below (gQ D none (w_1_2_3_4 q cI cJ cD Tn Ta Fn9 Fa9) (gA q [1, 2, 3, 4])) ([.ref (q 3), .ref (q 1)] : List Value).toArray s 0 0 (gA q [1, 2, 3, 4])) (F0 m 62 ls []) := by
    intro Fn Fa hf H locs hP hS ls hl
    unfold fX1_find_J62 at hf
    refine lv_aload_n hx hb dX1_find_62 rfl (lv_at hl 0 rfl) ?_
    refine va_get (D := D) (ci := 1) (v := .ref (q 4)) (C := RX1) (T := TX1) (N := 2) hx hb hts huX1 hown hE.1 hP 2 rfl rfl 0 (by decide) hk9 (fun _ h9 => h9) rfl dX1_find_63 ?_
    refine lv_aload_n hx hb dX1_find_66 rfl (lv_at hl 0 rfl) ?_
    refine va_get (D := D) (ci := 1) (v := .int Fn) (C := RX1) (T := TX1) (N := 2) hx hb hts huX1 hown hE.1 hP 2 rfl rfl 1 (by decide) hk15 (fun _ h9 => h9) rfl dX1_find_67 ?_
    refine lv_aload_n hx hb dX1_find_70 rfl (lv_at hl 1 rfl) ?_
    obtain ⟨r71, hc, hf⟩ := bn_some hf
    try dsimp only at hf
    refine g_call0 (ws' := (w_1_2_3_4 q cI cJ cD Tn Ta Fn Fa)) (st1 := [.int r71, .int Fn, .ref (q 4)]) hq [1, 2, 3, 4] [1] [.inl 0, .inr 1, .inr 2, .inr 3] (va_runV (As := []) (rest := [.int Fn, .ref (q 4)]) ⟨hx, hb, hml, hown, hts⟩ (kX2_count l D cI cJ cD q hq N Tn r71 hc) (cwV 0 hts gX1_find_X2_count rfl rfl rfl (by decide +kernel) ⟨(Nat.le_of_ble_eq_true rfl), (Nat.le_of_ble_eq_true rfl)⟩) ⟨gP_blind, va_recv hE.1 hP (ci := 2) (q0 := 0) rfl rfl, fun U hU hW => ⟨rfl, by rw [hU]; exact hP.sub (ws' := (w_1 q cI cJ cD Tn)) [0] rfl, gEv.warm hW hE⟩⟩ rfl rfl hl.1 rfl (lv_room (Nat.le_of_ble_eq_true rfl)) dX1_find_71 ⟨Nat.zero_le _, Nat.zero_le _⟩) hP hS (gSub rfl) rfl rfl rfl rfl rfl (fun H locs hP hS => ?_)
    obtain ⟨g74, hc, hf⟩ := bn_some hf
    try dsimp only at hf
    refine g_call0 (ws' := (w_1_2_3_4 q cI cJ cD Tn Ta Fn g74)) (st1 := []) hq [1, 2, 3, 4] [4] [.inr 0, .inr 1, .inr 2, .inl 0] (va_runSN (As := [.ref (q 4), .int Fn, .int r71]) (rest := []) ⟨hx, hb, hml, hown, hts⟩ (kX8_put l D cI cJ cD q hq 4 (by decide) N 65 Fa Fn r71 g74 hc) ⟨va_cnB (host := RX8) 3 hts gX1_find_X8_put_n28 rfl rfl rfl (hE.2 (.methodLinkNest RX1 28 yX8_put RX8) (by decide +kernel)) (hts (.initialized RX8) (by decide +kernel)) (by decide +kernel) ⟨(Nat.le_of_ble_eq_true rfl), (Nat.le_of_ble_eq_true rfl)⟩, hts (.static yX8_put) (by decide +kernel), trivial⟩ ⟨gP_blind, fun U hU hW => ⟨rfl, by rw [hU]; exact hP.sub (ws' := (w_G q cI 4 65 Fa)) [3] rfl, gEv.warm hW hE⟩⟩ rfl rfl hl.1 rfl (lv_room (Nat.le_of_ble_eq_true rfl)) dX1_find_74 ⟨Nat.zero_le _, Nat.zero_le _⟩) hP hS (gSub rfl) rfl rfl rfl rfl rfl (fun H locs hP hS => ?_)
    cases hf
    exact W.vret hx hb hr (fun t ht hW => ⟨⟨rfl, by rw [ht]; exact hP⟩, hS.F ht⟩) hS.2.2 dX1_find_77
  have K7 : ∀ (n7 : Nat) (Fn : Int32) (Fa : (Nat → Int32)) (x2 : Int32), fX1_find_H7 N Tn Ta n7 Fn Fa x2 = some (Fn9, Fa9) → ∀ (H : Heap) (locs : List Loc), va_P D vwCl (w_1_2_3_4 q cI cJ cD Tn Ta Fn Fa) H → va_S (gA q [1, 2, 3, 4]) s.heap H locs → ∀ ls : Array Slot, lv_has ls 3 [(0, .ref (q 3)), (1, .ref (q 1)), (2, .int x2)] → W p l e (headSpec wsX1_find rX1_find).room s m ([.ref (q 3), .ref (q 1)] : List Value).toArray below meth c H locs 0 0 (MQ below (gQ D none (w_1_2_3_4 q cI cJ cD Tn Ta Fn9 Fa9) (gA q [1, 2, 3, 4])) ([.ref (q 3), .ref (q 1)] : List Value).toArray s 0 0 (gA q [1, 2, 3, 4])) (F0 m 7 ls []) := by
    intro n7
    induction n7 with
    | zero =>
      intro Fn Fa x2 hf
      exact nomatch (show (none : Option (Int32 × (Nat → Int32))) = some (Fn9, Fa9) from hf)
    | succ n7 ih7 =>
      intro Fn Fa x2 hf H locs hP hS ls hl
      have hf : fX1_find_B7 N Tn Ta (fX1_find_H7 N Tn Ta n7) Fn Fa x2 = some (Fn9, Fa9) := hf
      unfold fX1_find_B7 at hf
      refine lv_iload_n hx hb dX1_find_7 rfl (lv_at hl 2 rfl) ?_
      refine lv_aload_n hx hb dX1_find_8 rfl (lv_at hl 1 rfl) ?_
      obtain ⟨r9, hc, hf⟩ := bn_some hf
      try dsimp only at hf
      refine g_call0 (ws' := (w_1_2_3_4 q cI cJ cD Tn Ta Fn Fa)) (st1 := [.int r9, .int x2]) hq [1, 2, 3, 4] [1] [.inl 0, .inr 1, .inr 2, .inr 3] (va_runV (As := []) (rest := [.int x2]) ⟨hx, hb, hml, hown, hts⟩ (kX2_count l D cI cJ cD q hq N Tn r9 hc) (cwV 0 hts gX1_find_X2_count rfl rfl rfl (by decide +kernel) ⟨(Nat.le_of_ble_eq_true rfl), (Nat.le_of_ble_eq_true rfl)⟩) ⟨gP_blind, va_recv hE.1 hP (ci := 2) (q0 := 0) rfl rfl, fun U hU hW => ⟨rfl, by rw [hU]; exact hP.sub (ws' := (w_1 q cI cJ cD Tn)) [0] rfl, gEv.warm hW hE⟩⟩ rfl rfl hl.1 rfl (lv_room (Nat.le_of_ble_eq_true rfl)) dX1_find_9 ⟨Nat.zero_le _, Nat.zero_le _⟩) hP hS (gSub rfl) rfl rfl rfl rfl rfl (fun H locs hP hS => ?_)
      refine lv_icmp_ge (tgt := 62) hx hb dX1_find_12 (by decide) (fun c_1 => ?_) (fun c_1 => ?_)
      · have hf := (if_pos c_1).symm.trans hf
        exact J62 Fn Fa hf _ _ hP hS _ (lv_sub hl [0, 1] rfl)
      · have hf := (if_neg c_1).symm.trans hf
        refine lv_aload_n hx hb dX1_find_15 rfl (lv_at hl 0 rfl) ?_
        refine va_get (D := D) (ci := 1) (v := .int Fn) (C := RX1) (T := TX1) (N := 2) hx hb hts huX1 hown hE.1 hP 2 rfl rfl 1 (by decide) hk15 (fun _ h9 => h9) rfl dX1_find_16 ?_
        refine lv_bipush (v := (64 : Int32)) hx hb dX1_find_19 (by decide) ?_
        refine lv_icmp_ge (tgt := 62) hx hb dX1_find_21 (by decide) (fun c_2 => ?_) (fun c_2 => ?_)
        · have hf := (if_pos c_2).symm.trans hf
          exact J62 Fn Fa hf _ _ hP hS _ (lv_sub hl [0, 1] rfl)
        · have hf := (if_neg c_2).symm.trans hf
          refine lv_aload_n hx hb dX1_find_24 rfl (lv_at hl 0 rfl) ?_
          refine va_get (D := D) (ci := 1) (v := .ref (q 4)) (C := RX1) (T := TX1) (N := 2) hx hb hts huX1 hown hE.1 hP 2 rfl rfl 0 (by decide) hk9 (fun _ h9 => h9) rfl dX1_find_25 ?_
          refine lv_aload_n hx hb dX1_find_28 rfl (lv_at hl 0 rfl) ?_
          refine va_get (D := D) (ci := 1) (v := .int Fn) (C := RX1) (T := TX1) (N := 2) hx hb hts huX1 hown hE.1 hP 2 rfl rfl 1 (by decide) hk15 (fun _ h9 => h9) rfl dX1_find_29 ?_
          refine lv_iload_n hx hb dX1_find_32 rfl (lv_at hl 2 rfl) ?_
          obtain ⟨g33, hc, hf⟩ := bn_some hf
          try dsimp only at hf
          refine g_call0 (ws' := (w_1_2_3_4 q cI cJ cD Tn Ta Fn g33)) (st1 := []) hq [1, 2, 3, 4] [4] [.inr 0, .inr 1, .inr 2, .inl 0] (va_runSN (As := [.ref (q 4), .int Fn, .int x2]) (rest := []) ⟨hx, hb, hml, hown, hts⟩ (kX8_put l D cI cJ cD q hq 4 (by decide) N 65 Fa Fn x2 g33 hc) ⟨va_cnB (host := RX8) 3 hts gX1_find_X8_put_n28 rfl rfl rfl (hE.2 (.methodLinkNest RX1 28 yX8_put RX8) (by decide +kernel)) (hts (.initialized RX8) (by decide +kernel)) (by decide +kernel) ⟨(Nat.le_of_ble_eq_true rfl), (Nat.le_of_ble_eq_true rfl)⟩, hts (.static yX8_put) (by decide +kernel), trivial⟩ ⟨gP_blind, fun U hU hW => ⟨rfl, by rw [hU]; exact hP.sub (ws' := (w_G q cI 4 65 Fa)) [3] rfl, gEv.warm hW hE⟩⟩ rfl rfl hl.1 rfl (lv_room (Nat.le_of_ble_eq_true rfl)) dX1_find_33 ⟨Nat.zero_le _, Nat.zero_le _⟩) hP hS (gSub rfl) rfl rfl rfl rfl rfl (fun H locs hP hS => ?_)
          refine lv_aload_n hx hb dX1_find_36 rfl (lv_at hl 0 rfl) ?_
          refine lv_dup hx hb dX1_find_37 rfl ?_
          refine va_get (D := D) (ci := 1) (v := .int Fn) (C := RX1) (T := TX1) (N := 2) hx hb hts huX1 hown hE.1 hP 2 rfl rfl 1 (by decide) hk15 (fun _ h9 => h9) rfl dX1_find_38 ?_
          refine lv_iconst (v := (1 : Int32)) hx hb dX1_find_41 (by decide) ?_
          refine lv_iadd hx hb dX1_find_42 ?_
          refine va_put (D := D) (ci := 1) (v := .int (Fn + (1 : Int32))) (ty := .int) (C := RX1) (T := TX1) (N := 2) hx hb hts huX1 tyX1 tyX1_ok nmX1 hown hE.1 hP (hDm Tn Ta Fn g33) hS 2 rfl rfl 1 (by decide) hk15 (fun _ h9 => h9) rfl (by decide +kernel) rfl rfl (Nat.le_of_ble_eq_true rfl) dX1_find_43 (fun H locs hP _ hS => ?_)
          have hP : va_P D vwCl (w_1_2_3_4 q cI cJ cD Tn Ta (Fn + (1 : Int32)) g33) H := hP
          refine lv_iload_n hx hb dX1_find_46 rfl (lv_at hl 2 rfl) ?_
          refine lv_aload_n hx hb dX1_find_47 rfl (lv_at hl 1 rfl) ?_
          refine lv_iload_n hx hb dX1_find_48 rfl (lv_at hl 2 rfl) ?_
          refine lv_aload_n hx hb dX1_find_49 rfl (lv_at hl 1 rfl) ?_
          obtain ⟨r50, hc, hf⟩ := bn_some hf
          try dsimp only at hf
          refine g_call0 (ws' := (w_1_2_3_4 q cI cJ cD Tn Ta (Fn + (1 : Int32)) g33)) (st1 := [.int r50, .int x2, .ref (q 1), .int x2]) hq [1, 2, 3, 4] [1] [.inl 0, .inr 1, .inr 2, .inr 3] (va_runV (As := []) (rest := [.int x2, .ref (q 1), .int x2]) ⟨hx, hb, hml, hown, hts⟩ (kX2_count l D cI cJ cD q hq N Tn r50 hc) (cwV 0 hts gX1_find_X2_count rfl rfl rfl (by decide +kernel) ⟨(Nat.le_of_ble_eq_true rfl), (Nat.le_of_ble_eq_true rfl)⟩) ⟨gP_blind, va_recv hE.1 hP (ci := 2) (q0 := 0) rfl rfl, fun U hU hW => ⟨rfl, by rw [hU]; exact hP.sub (ws' := (w_1 q cI cJ cD Tn)) [0] rfl, gEv.warm hW hE⟩⟩ rfl rfl hl.1 rfl (lv_room (Nat.le_of_ble_eq_true rfl)) dX1_find_50 ⟨Nat.zero_le _, Nat.zero_le _⟩) hP hS (gSub rfl) rfl rfl rfl rfl rfl (fun H locs hP hS => ?_)
          refine lv_iconst (v := (0 : Int32)) hx hb dX1_find_53 (by decide) ?_
          obtain ⟨r54, hc, hf⟩ := bn_some hf
          try dsimp only at hf
          refine g_call0 (ws' := (w_1_2_3_4 q cI cJ cD Tn Ta (Fn + (1 : Int32)) g33)) (st1 := [.int r54, .int x2]) hq [1, 2, 3, 4] [1, 2] [.inl 0, .inl 1, .inr 2, .inr 3] (va_runS (As := [.ref (q 1), .int x2, .int r50, .int (0 : Int32)]) (rest := [.int x2]) ⟨hx, hb, hml, hown, hts⟩ (kX1_firstLength l D cI cJ cD q hq N Tn Ta x2 r50 (0 : Int32) r54 hc) (va_cwS 4 hts gX1_find_X1_firstLength rfl rfl rfl (by decide +kernel) ⟨(Nat.le_of_ble_eq_true rfl), (Nat.le_of_ble_eq_true rfl)⟩) ⟨gP_blind, fun U hU hW => ⟨rfl, by rw [hU]; exact hP.sub (ws' := (w_1_2 q cI cJ cD Tn Ta)) [0, 1] rfl, gEv.warm hW hE⟩⟩ rfl rfl hl.1 rfl (lv_room (Nat.le_of_ble_eq_true rfl)) dX1_find_54 ⟨Nat.zero_le _, Nat.zero_le _⟩) hP hS (gSub rfl) rfl rfl rfl rfl rfl (fun H locs hP hS => ?_)
          refine lv_iadd hx hb dX1_find_57 ?_
          refine lv_istore_n (lv' := [(2, .int (x2 + r54)), (0, .ref (q 3)), (1, .ref (q 1))]) hx hb dX1_find_58 rfl hl (by decide) rfl (fun ls hl => ?_)
          refine lv_goto (tgt := 7) hx hb dX1_find_59 (by decide) ?_
          exact ih7 (Fn + (1 : Int32)) g33 (x2 + r54) hf _ _ hP hS _ (lv_sub hl [1, 2, 0] rfl)
  unfold fX1_find at hf
  refine lv_iconst (v := (0 : Int32)) hx hb dX1_find_0 (by decide) ?_
  refine lv_istore_n (lv' := [(2, .int (0 : Int32)), (0, .ref (q 3)), (1, .ref (q 1))]) hx hb dX1_find_1 rfl hl (by decide) rfl (fun ls hl => ?_)
  refine lv_aload_n hx hb dX1_find_2 rfl (lv_at hl 1 rfl) ?_
  refine lv_iconst (v := (0 : Int32)) hx hb dX1_find_3 (by decide) ?_
  refine va_put (D := D) (ci := 1) (v := .int (0 : Int32)) (ty := .int) (C := RX1) (T := TX1) (N := 2) hx hb hts huX1 tyX1 tyX1_ok nmX1 hown hE.1 hP (hDm Tn Ta Fn Fa) hS 2 rfl rfl 1 (by decide) hk15 (fun _ h9 => h9) rfl (by decide +kernel) rfl rfl (Nat.le_of_ble_eq_true rfl) dX1_find_4 (fun H locs hP _ hS => ?_)
  have hP : va_P D vwCl (w_1_2_3_4 q cI cJ cD Tn Ta (0 : Int32) Fa) H := hP
  exact K7 N (0 : Int32) Fa (0 : Int32) hf _ _ hP hS _ (lv_sub hl [1, 2, 0] rfl)
set_option maxHeartbeats 4000000 in
set_option maxRecDepth 100000 in
theorem kX1_count (l : Launch) (D : va_G) (cI cJ cD : ClassId) (q : Nat → Nat) (hq : gInj 14 q) (N : Nat) (Fn : Int32) (r0 : Int32) (hf : fX1_count N Fn = some r0) : Met l yX1_count wsX1_count rX1_count (gP D cI cJ cD [.ref (q 3)] (w_3 q cI cJ cD Fn)) (gQ D (some (.int r0)) (w_3 q cI cJ cD Fn) (gA q [3])) 0 0 (gA q [3]) := by
  refine Met.ofW (cc := cX1_count) (maxL := 1) (ret := (some .int)) (by decide +kernel) rfl ?_
  intro p e s m args below meth c s₁ B hml hv
  obtain ⟨rfl, hP, hE⟩ := hv
  have hx := B.exec
  have hb := B.bytes
  have hr := B.returns
  have hts := atoms_spec (ws := wsX1_count) B.pre
  have hown : s.vm.findClass RX1 = some m.cls := findClass_of_methodNamed B.named
  have hlocks := B.notSynchronized
  have hS : va_S (gA q [3]) s.heap s.heap [] := va_S.rf
  have hl := lv_entry ([.ref (q 3)]) (n := 1) (Nat.le_of_ble_eq_true rfl)
  rw [lg_entry_eq]
  generalize (lg_sl ([.ref (q 3)]) ++ List.replicate (1 - (lg_sl ([.ref (q 3)])).length) Slot.unset).toArray = ls at hl ⊢
  have hl : lv_has ls 1 [(0, .ref (q 3))] := hl
  have hk15 := hts (.fieldLink RX1 15 "LyndonText$Factors" "count" "I") (by decide +kernel)
  have huX1 : ∀ w ∈ u_ws RX1 TX1 2, w ∈ wsX1_count := by decide +kernel
  unfold fX1_count at hf
  refine lv_aload_n hx hb dX1_count_0 rfl (lv_at hl 0 rfl) ?_
  refine va_get (D := D) (ci := 1) (v := .int Fn) (C := RX1) (T := TX1) (N := 2) hx hb hts huX1 hown hE.1 hP 0 rfl rfl 1 (by decide) hk15 (fun _ h9 => h9) rfl dX1_count_1 ?_
  cases hf
  exact W.iret hx hb hr (fun t ht hW => ⟨⟨rfl, by rw [ht]; exact hP⟩, hS.F ht⟩) hS.2.2 dX1_count_4
set_option maxHeartbeats 4000000 in
set_option maxRecDepth 100000 in
theorem kX1_start (l : Launch) (D : va_G) (cI cJ cD : ClassId) (q : Nat → Nat) (hq : gInj 14 q) (N : Nat) (Fn : Int32) (Fa : (Nat → Int32)) (p1 : Int32) (r0 : Int32) (hf : fX1_start N Fn Fa p1 = some r0) : Met l yX1_start wsX1_start rX1_start (gP D cI cJ cD [.ref (q 3), .int p1] (w_3_4 q cI cJ cD Fn Fa)) (gQ D (some (.int r0)) (w_3_4 q cI cJ cD Fn Fa) (gA q [3, 4])) 0 0 (gA q [3, 4]) := by
  refine Met.ofW (cc := cX1_start) (maxL := 2) (ret := (some .int)) (by decide +kernel) rfl ?_
  intro p e s m args below meth c s₁ B hml hv
  obtain ⟨rfl, hP, hE⟩ := hv
  have hx := B.exec
  have hb := B.bytes
  have hr := B.returns
  have hts := atoms_spec (ws := wsX1_start) B.pre
  have hown : s.vm.findClass RX1 = some m.cls := findClass_of_methodNamed B.named
  have hlocks := B.notSynchronized
  have hS : va_S (gA q [3, 4]) s.heap s.heap [] := va_S.rf
  have hl := lv_entry ([.ref (q 3), .int p1]) (n := 2) (Nat.le_of_ble_eq_true rfl)
  rw [lg_entry_eq]
  generalize (lg_sl ([.ref (q 3), .int p1]) ++ List.replicate (2 - (lg_sl ([.ref (q 3), .int p1])).length) Slot.unset).toArray = ls at hl ⊢
  have hl : lv_has ls 2 [(0, .ref (q 3)), (1, .int p1)] := hl
  have hk9 := hts (.fieldLink RX1 9 "LyndonText$Factors" "starts" "[I") (by decide +kernel)
  have huX1 : ∀ w ∈ u_ws RX1 TX1 2, w ∈ wsX1_start := by decide +kernel
  unfold fX1_start at hf
  refine lv_aload_n hx hb dX1_start_0 rfl (lv_at hl 0 rfl) ?_
  refine va_get (D := D) (ci := 1) (v := .ref (q 4)) (C := RX1) (T := TX1) (N := 2) hx hb hts huX1 hown hE.1 hP 0 rfl rfl 0 (by decide) hk9 (fun _ h9 => h9) rfl dX1_start_1 ?_
  refine lv_iload_n hx hb dX1_start_4 rfl (lv_at hl 1 rfl) ?_
  obtain ⟨r5, hc, hf⟩ := bn_some hf
  try dsimp only at hf
  refine g_call0 (ws' := (w_3_4 q cI cJ cD Fn Fa)) (st1 := [.int r5]) hq [3, 4] [4] [.inr 0, .inl 0] (va_runSN (As := [.ref (q 4), .int p1]) (rest := []) ⟨hx, hb, hml, hown, hts⟩ (kX8_at l D cI cJ cD q hq 4 (by decide) N 65 Fa p1 r5 hc) ⟨va_cnB (host := RX8) 2 hts gX1_start_X8_at_n19 rfl rfl rfl (hE.2 (.methodLinkNest RX1 19 yX8_at RX8) (by decide +kernel)) (hts (.initialized RX8) (by decide +kernel)) (by decide +kernel) ⟨(Nat.le_of_ble_eq_true rfl), (Nat.le_of_ble_eq_true rfl)⟩, hts (.static yX8_at) (by decide +kernel), trivial⟩ ⟨gP_blind, fun U hU hW => ⟨rfl, by rw [hU]; exact hP.sub (ws' := (w_G q cI 4 65 Fa)) [1] rfl, gEv.warm hW hE⟩⟩ rfl rfl hl.1 rfl (lv_room (Nat.le_of_ble_eq_true rfl)) dX1_start_5 ⟨Nat.zero_le _, Nat.zero_le _⟩) hP hS (gSub rfl) rfl rfl rfl rfl rfl (fun H locs hP hS => ?_)
  cases hf
  exact W.iret hx hb hr (fun t ht hW => ⟨⟨rfl, by rw [ht]; exact hP⟩, hS.F ht⟩) hS.2.2 dX1_start_8
set_option maxHeartbeats 4000000 in
set_option maxRecDepth 100000 in
theorem kX1_numberOver (l : Launch) (D : va_G) (cI cJ cD : ClassId) (q : Nat → Nat) (hq : gInj 14 q) (N : Nat) (Fn : Int32) (Fa : (Nat → Int32)) (p1 : Int32) (r0 : Int32) (hf : fX1_numberOver N Fn Fa p1 = some r0) : Met l yX1_numberOver wsX1_numberOver rX1_numberOver (gP D cI cJ cD [.ref (q 3), .int p1] (w_3_4 q cI cJ cD Fn Fa)) (gQ D (some (.int r0)) (w_3_4 q cI cJ cD Fn Fa) (gA q [3, 4])) 0 0 (gA q [3, 4]) := by
  refine Met.ofW (cc := cX1_numberOver) (maxL := 3) (ret := (some .int)) (by decide +kernel) rfl ?_
  intro p e s m args below meth c s₁ B hml hv
  obtain ⟨rfl, hP, hE⟩ := hv
  have hx := B.exec
  have hb := B.bytes
  have hr := B.returns
  have hts := atoms_spec (ws := wsX1_numberOver) B.pre
  have hown : s.vm.findClass RX1 = some m.cls := findClass_of_methodNamed B.named
  have hlocks := B.notSynchronized
  have hS : va_S (gA q [3, 4]) s.heap s.heap [] := va_S.rf
  have hl := lv_entry ([.ref (q 3), .int p1]) (n := 3) (Nat.le_of_ble_eq_true rfl)
  rw [lg_entry_eq]
  generalize (lg_sl ([.ref (q 3), .int p1]) ++ List.replicate (3 - (lg_sl ([.ref (q 3), .int p1])).length) Slot.unset).toArray = ls at hl ⊢
  have hl : lv_has ls 3 [(0, .ref (q 3)), (1, .int p1)] := hl
  have hk15 := hts (.fieldLink RX1 15 "LyndonText$Factors" "count" "I") (by decide +kernel)
  have hk9 := hts (.fieldLink RX1 9 "LyndonText$Factors" "starts" "[I") (by decide +kernel)
  have huX1 : ∀ w ∈ u_ws RX1 TX1 2, w ∈ wsX1_numberOver := by decide +kernel
  have J32 : ∀ (x2 : Int32), fX1_numberOver_J32 N Fn Fa x2 = some r0 → ∀ (H : Heap) (locs : List Loc), va_P D vwCl (w_3_4 q cI cJ cD Fn Fa) H → va_S (gA q [3, 4]) s.heap H locs → ∀ ls : Array Slot, lv_has ls 3 [(2, .int x2)] → W p l e (headSpec wsX1_numberOver rX1_numberOver).room s m ([.ref (q 3), .int p1] : List Value).toArray below meth c H locs 0 0 (MQ below (gQ D (some (.int r0)) (w_3_4 q cI cJ cD Fn Fa) (gA q [3, 4])) ([.ref (q 3), .int p1] : List Value).toArray s 0 0 (gA q [3, 4])) (F0 m 32 ls []) := by
    intro x2 hf H locs hP hS ls hl
    unfold fX1_numberOver_J32 at hf
    refine lv_iload_n hx hb dX1_numberOver_32 rfl (lv_at hl 0 rfl) ?_
    cases hf
    exact W.iret hx hb hr (fun t ht hW => ⟨⟨rfl, by rw [ht]; exact hP⟩, hS.F ht⟩) hS.2.2 dX1_numberOver_33
  have K2 : ∀ (n2 : Nat) (x1 : Int32) (x2 : Int32), fX1_numberOver_H2 N Fn Fa n2 x1 x2 = some r0 → ∀ (H : Heap) (locs : List Loc), va_P D vwCl (w_3_4 q cI cJ cD Fn Fa) H → va_S (gA q [3, 4]) s.heap H locs → ∀ ls : Array Slot, lv_has ls 3 [(0, .ref (q 3)), (1, .int x1), (2, .int x2)] → W p l e (headSpec wsX1_numberOver rX1_numberOver).room s m ([.ref (q 3), .int p1] : List Value).toArray below meth c H locs 0 0 (MQ below (gQ D (some (.int r0)) (w_3_4 q cI cJ cD Fn Fa) (gA q [3, 4])) ([.ref (q 3), .int p1] : List Value).toArray s 0 0 (gA q [3, 4])) (F0 m 2 ls []) := by
    intro n2
    induction n2 with
    | zero =>
      intro x1 x2 hf
      exact nomatch (show (none : Option Int32) = some r0 from hf)
    | succ n2 ih2 =>
      intro x1 x2 hf H locs hP hS ls hl
      have hf : fX1_numberOver_B2 N Fn Fa (fX1_numberOver_H2 N Fn Fa n2) x1 x2 = some r0 := hf
      unfold fX1_numberOver_B2 at hf
      refine lv_iload_n hx hb dX1_numberOver_2 rfl (lv_at hl 2 rfl) ?_
      refine lv_aload_n hx hb dX1_numberOver_3 rfl (lv_at hl 0 rfl) ?_
      refine va_get (D := D) (ci := 1) (v := .int Fn) (C := RX1) (T := TX1) (N := 2) hx hb hts huX1 hown hE.1 hP 0 rfl rfl 1 (by decide) hk15 (fun _ h9 => h9) rfl dX1_numberOver_4 ?_
      refine lv_iconst (v := (1 : Int32)) hx hb dX1_numberOver_7 (by decide) ?_
      refine lv_isub hx hb dX1_numberOver_8 ?_
      refine lv_icmp_ge (tgt := 32) hx hb dX1_numberOver_9 (by decide) (fun c_1 => ?_) (fun c_1 => ?_)
      · have hf := (if_pos c_1).symm.trans hf
        exact J32 x2 hf _ _ hP hS _ (lv_sub hl [2] rfl)
      · have hf := (if_neg c_1).symm.trans hf
        refine lv_aload_n hx hb dX1_numberOver_12 rfl (lv_at hl 0 rfl) ?_
        refine va_get (D := D) (ci := 1) (v := .ref (q 4)) (C := RX1) (T := TX1) (N := 2) hx hb hts huX1 hown hE.1 hP 0 rfl rfl 0 (by decide) hk9 (fun _ h9 => h9) rfl dX1_numberOver_13 ?_
        refine lv_iload_n hx hb dX1_numberOver_16 rfl (lv_at hl 2 rfl) ?_
        refine lv_iconst (v := (1 : Int32)) hx hb dX1_numberOver_17 (by decide) ?_
        refine lv_iadd hx hb dX1_numberOver_18 ?_
        obtain ⟨r19, hc, hf⟩ := bn_some hf
        try dsimp only at hf
        refine g_call0 (ws' := (w_3_4 q cI cJ cD Fn Fa)) (st1 := [.int r19]) hq [3, 4] [4] [.inr 0, .inl 0] (va_runSN (As := [.ref (q 4), .int (x2 + (1 : Int32))]) (rest := []) ⟨hx, hb, hml, hown, hts⟩ (kX8_at l D cI cJ cD q hq 4 (by decide) N 65 Fa (x2 + (1 : Int32)) r19 hc) ⟨va_cnB (host := RX8) 2 hts gX1_numberOver_X8_at_n19 rfl rfl rfl (hE.2 (.methodLinkNest RX1 19 yX8_at RX8) (by decide +kernel)) (hts (.initialized RX8) (by decide +kernel)) (by decide +kernel) ⟨(Nat.le_of_ble_eq_true rfl), (Nat.le_of_ble_eq_true rfl)⟩, hts (.static yX8_at) (by decide +kernel), trivial⟩ ⟨gP_blind, fun U hU hW => ⟨rfl, by rw [hU]; exact hP.sub (ws' := (w_G q cI 4 65 Fa)) [1] rfl, gEv.warm hW hE⟩⟩ rfl rfl hl.1 rfl (lv_room (Nat.le_of_ble_eq_true rfl)) dX1_numberOver_19 ⟨Nat.zero_le _, Nat.zero_le _⟩) hP hS (gSub rfl) rfl rfl rfl rfl rfl (fun H locs hP hS => ?_)
        refine lv_iload_n hx hb dX1_numberOver_22 rfl (lv_at hl 1 rfl) ?_
        refine lv_icmp_gt (tgt := 32) hx hb dX1_numberOver_23 (by decide) (fun c_2 => ?_) (fun c_2 => ?_)
        · have hf := (if_pos c_2).symm.trans hf
          exact J32 x2 hf _ _ hP hS _ (lv_sub hl [2] rfl)
        · have hf := (if_neg c_2).symm.trans hf
          refine lv_iinc (v := (x2 + 1)) (lv' := [(2, .int (x2 + 1)), (0, .ref (q 3)), (1, .int x1)]) hx hb dX1_numberOver_26 hl (k := 2) rfl rfl (by decide) rfl (fun ls hl => ?_)
          refine lv_goto (tgt := 2) hx hb dX1_numberOver_29 (by decide) ?_
          exact ih2 x1 (x2 + 1) hf _ _ hP hS _ (lv_sub hl [1, 2, 0] rfl)
  unfold fX1_numberOver at hf
  refine lv_iconst (v := (0 : Int32)) hx hb dX1_numberOver_0 (by decide) ?_
  refine lv_istore_n (lv' := [(2, .int (0 : Int32)), (0, .ref (q 3)), (1, .int p1)]) hx hb dX1_numberOver_1 rfl hl (by decide) rfl (fun ls hl => ?_)
  exact K2 N p1 (0 : Int32) hf _ _ hP hS _ (lv_sub hl [1, 2, 0] rfl)
set_option maxHeartbeats 4000000 in
set_option maxRecDepth 100000 in
theorem kX5_letter (l : Launch) (D : va_G) (cI cJ cD : ClassId) (q : Nat → Nat) (hq : gInj 14 q) (N : Nat) (Tn : Int32) (Ta : (Nat → Int32)) (p1 : Int32) (p2 : Int32) (p3 : Int32) (r0 : Int32) (hf : fX5_letter N Tn Ta p1 p2 p3 = some r0) : Met l yX5_letter wsX5_letter rX5_letter (gP D cI cJ cD [.ref (q 1), .int p1, .int p2, .int p3] (w_1_2 q cI cJ cD Tn Ta)) (gQ D (some (.int r0)) (w_1_2 q cI cJ cD Tn Ta) (gA q [1, 2])) 0 0 (gA q [1, 2]) := by
  refine Met.ofW (cc := cX5_letter) (maxL := 5) (ret := (some .int)) (by decide +kernel) rfl ?_
  intro p e s m args below meth c s₁ B hml hv
  obtain ⟨rfl, hP, hE⟩ := hv
  have hx := B.exec
  have hb := B.bytes
  have hr := B.returns
  have hts := atoms_spec (ws := wsX5_letter) B.pre
  have hown : s.vm.findClass RX5 = some m.cls := findClass_of_methodNamed B.named
  have hlocks := B.notSynchronized
  have hS : va_S (gA q [1, 2]) s.heap s.heap [] := va_S.rf
  have hl := lv_entry ([.ref (q 1), .int p1, .int p2, .int p3]) (n := 5) (Nat.le_of_ble_eq_true rfl)
  rw [lg_entry_eq]
  generalize (lg_sl ([.ref (q 1), .int p1, .int p2, .int p3]) ++ List.replicate (5 - (lg_sl ([.ref (q 1), .int p1, .int p2, .int p3])).length) Slot.unset).toArray = ls at hl ⊢
  have hl : lv_has ls 5 [(0, .ref (q 1)), (1, .int p1), (2, .int p2), (3, .int p3)] := hl
  have J24 : ∀ (y0 : Int32), fX5_letter_J24 N Tn Ta y0 = some r0 → ∀ (H : Heap) (locs : List Loc), va_P D vwCl (w_1_2 q cI cJ cD Tn Ta) H → va_S (gA q [1, 2]) s.heap H locs → ∀ ls : Array Slot, lv_has ls 5 [] → W p l e (headSpec wsX5_letter rX5_letter).room s m ([.ref (q 1), .int p1, .int p2, .int p3] : List Value).toArray below meth c H locs 0 0 (MQ below (gQ D (some (.int r0)) (w_1_2 q cI cJ cD Tn Ta) (gA q [1, 2])) ([.ref (q 1), .int p1, .int p2, .int p3] : List Value).toArray s 0 0 (gA q [1, 2])) (F0 m 24 ls [.int y0]) := by
    intro y0 hf H locs hP hS ls hl
    unfold fX5_letter_J24 at hf
    cases hf
    exact W.iret hx hb hr (fun t ht hW => ⟨⟨rfl, by rw [ht]; exact hP⟩, hS.F ht⟩) hS.2.2 dX5_letter_24
  unfold fX5_letter at hf
  refine lv_iload_n hx hb dX5_letter_0 rfl (lv_at hl 2 rfl) ?_
  refine lv_iload_n hx hb dX5_letter_1 rfl (lv_at hl 1 rfl) ?_
  refine lv_isub hx hb dX5_letter_2 ?_
  refine lv_istore (lv' := [(4, .int (p2 - p1)), (0, .ref (q 1)), (1, .int p1), (2, .int p2), (3, .int p3)]) hx hb dX5_letter_3 hl (by decide) rfl (fun ls hl => ?_)
  refine lv_iload hx hb dX5_letter_5 (lv_at hl 0 rfl) ?_
  refine lv_if_le (tgt := 23) hx hb dX5_letter_7 (by decide) (fun c_1 => ?_) (fun c_1 => ?_)
  · have hf := (if_pos c_1).symm.trans hf
    refine lv_iconst (v := (0 : Int32)) hx hb dX5_letter_23 (by decide) ?_
    exact J24 (0 : Int32) hf _ _ hP hS _ (lv_sub hl [] rfl)
  · have hf := (if_neg c_1).symm.trans hf
    refine lv_aload_n hx hb dX5_letter_10 rfl (lv_at hl 1 rfl) ?_
    refine lv_iload_n hx hb dX5_letter_11 rfl (lv_at hl 2 rfl) ?_
    refine lv_iload_n hx hb dX5_letter_12 rfl (lv_at hl 4 rfl) ?_
    refine lv_iload hx hb dX5_letter_13 (lv_at hl 0 rfl) ?_
    obtain ⟨g_2, hf⟩ := gd_some hf
    refine lv_irem hx hb dX5_letter_15 (nz_ne g_2) ?_
    refine lv_iadd hx hb dX5_letter_16 ?_
    obtain ⟨r17, hc, hf⟩ := bn_some hf
    try dsimp only at hf
    refine g_call0 (ws' := (w_1_2 q cI cJ cD Tn Ta)) (st1 := [.int r17]) hq [1, 2] [1, 2] [.inl 0, .inl 1] (va_runV (As := [.int (p1 + (p3 - p3 / (p2 - p1) * (p2 - p1)))]) (rest := []) ⟨hx, hb, hml, hown, hts⟩ (kX2_letter l D cI cJ cD q hq N Tn Ta (p1 + (p3 - p3 / (p2 - p1) * (p2 - p1))) r17 hc) (cwV 1 hts gX5_letter_X2_letter rfl rfl rfl (by decide +kernel) ⟨(Nat.le_of_ble_eq_true rfl), (Nat.le_of_ble_eq_true rfl)⟩) ⟨gP_blind, va_recv hE.1 hP (ci := 2) (q0 := 0) rfl rfl, fun U hU hW => ⟨rfl, by rw [hU]; exact hP.sub (ws' := (w_1_2 q cI cJ cD Tn Ta)) [0, 1] rfl, gEv.warm hW hE⟩⟩ rfl rfl hl.1 rfl (lv_room (Nat.le_of_ble_eq_true rfl)) dX5_letter_17 ⟨Nat.zero_le _, Nat.zero_le _⟩) hP hS (gSub rfl) rfl rfl rfl rfl rfl (fun H locs hP hS => ?_)
    refine lv_goto (tgt := 24) hx hb dX5_letter_20 (by decide) ?_
    exact J24 r17 hf _ _ hP hS _ (lv_sub hl [] rfl)
set_option maxHeartbeats 4000000 in
set_option maxRecDepth 100000 in
theorem kX5_difference (l : Launch) (D : va_G) (cI cJ cD : ClassId) (q : Nat → Nat) (hq : gInj 14 q) (N : Nat) (Tn : Int32) (Ta : (Nat → Int32)) (p1 : Int32) (p2 : Int32) (p3 : Int32) (p4 : Int32) (r0 : Int32) (hf : fX5_difference N Tn Ta p1 p2 p3 p4 = some r0) : Met l yX5_difference wsX5_difference rX5_difference (gP D cI cJ cD [.ref (q 1), .int p1, .int p2, .int p3, .int p4] (w_1_2 q cI cJ cD Tn Ta)) (gQ D (some (.int r0)) (w_1_2 q cI cJ cD Tn Ta) (gA q [1, 2])) 0 0 (gA q [1, 2]) := by
  refine Met.ofW (cc := cX5_difference) (maxL := 7) (ret := (some .int)) (by decide +kernel) rfl ?_
  intro p e s m args below meth c s₁ B hml hv
  obtain ⟨rfl, hP, hE⟩ := hv
  have hx := B.exec
  have hb := B.bytes
  have hr := B.returns
  have hts := atoms_spec (ws := wsX5_difference) B.pre
  have hown : s.vm.findClass RX5 = some m.cls := findClass_of_methodNamed B.named
  have hlocks := B.notSynchronized
  have hS : va_S (gA q [1, 2]) s.heap s.heap [] := va_S.rf
  have hl := lv_entry ([.ref (q 1), .int p1, .int p2, .int p3, .int p4]) (n := 7) (Nat.le_of_ble_eq_true rfl)
  rw [lg_entry_eq]
  generalize (lg_sl ([.ref (q 1), .int p1, .int p2, .int p3, .int p4]) ++ List.replicate (7 - (lg_sl ([.ref (q 1), .int p1, .int p2, .int p3, .int p4])).length) Slot.unset).toArray = ls at hl ⊢
  have hl : lv_has ls 7 [(0, .ref (q 1)), (1, .int p1), (2, .int p2), (3, .int p3), (4, .int p4)] := hl
  have J49 : ∀ (x5 : Int32), fX5_difference_J49 N Tn Ta x5 = some r0 → ∀ (H : Heap) (locs : List Loc), va_P D vwCl (w_1_2 q cI cJ cD Tn Ta) H → va_S (gA q [1, 2]) s.heap H locs → ∀ ls : Array Slot, lv_has ls 7 [(5, .int x5)] → W p l e (headSpec wsX5_difference rX5_difference).room s m ([.ref (q 1), .int p1, .int p2, .int p3, .int p4] : List Value).toArray below meth c H locs 0 0 (MQ below (gQ D (some (.int r0)) (w_1_2 q cI cJ cD Tn Ta) (gA q [1, 2])) ([.ref (q 1), .int p1, .int p2, .int p3, .int p4] : List Value).toArray s 0 0 (gA q [1, 2])) (F0 m 49 ls []) := by
    intro x5 hf H locs hP hS ls hl
    unfold fX5_difference_J49 at hf
    refine lv_iload hx hb dX5_difference_49 (lv_at hl 0 rfl) ?_
    cases hf
    exact W.iret hx hb hr (fun t ht hW => ⟨⟨rfl, by rw [ht]; exact hP⟩, hS.F ht⟩) hS.2.2 dX5_difference_51
  have K6 : ∀ (n6 : Nat) (x1 : Int32) (x2 : Int32) (x3 : Int32) (x4 : Int32) (x5 : Int32) (x6 : Int32), fX5_difference_H6 N Tn Ta n6 x1 x2 x3 x4 x5 x6 = some r0 → ∀ (H : Heap) (locs : List Loc), va_P D vwCl (w_1_2 q cI cJ cD Tn Ta) H → va_S (gA q [1, 2]) s.heap H locs → ∀ ls : Array Slot, lv_has ls 7 [(0, .ref (q 1)), (1, .int x1), (2, .int x2), (3, .int x3), (4, .int x4), (5, .int x5), (6, .int x6)] → W p l e (headSpec wsX5_difference rX5_difference).room s m ([.ref (q 1), .int p1, .int p2, .int p3, .int p4] : List Value).toArray below meth c H locs 0 0 (MQ below (gQ D (some (.int r0)) (w_1_2 q cI cJ cD Tn Ta) (gA q [1, 2])) ([.ref (q 1), .int p1, .int p2, .int p3, .int p4] : List Value).toArray s 0 0 (gA q [1, 2])) (F0 m 6 ls []) := by
    intro n6
    induction n6 with
    | zero =>
      intro x1 x2 x3 x4 x5 x6 hf
      exact nomatch (show (none : Option Int32) = some r0 from hf)
    | succ n6 ih6 =>
      intro x1 x2 x3 x4 x5 x6 hf H locs hP hS ls hl
      have hf : fX5_difference_B6 N Tn Ta (fX5_difference_H6 N Tn Ta n6) x1 x2 x3 x4 x5 x6 = some r0 := hf
      unfold fX5_difference_B6 at hf
      refine lv_iload hx hb dX5_difference_6 (lv_at hl 6 rfl) ?_
      refine lv_iload_n hx hb dX5_difference_8 rfl (lv_at hl 2 rfl) ?_
      refine lv_iload_n hx hb dX5_difference_9 rfl (lv_at hl 1 rfl) ?_
      refine lv_isub hx hb dX5_difference_10 ?_
      refine lv_icmp_ge (tgt := 49) hx hb dX5_difference_11 (by decide) (fun c_1 => ?_) (fun c_1 => ?_)
      · have hf := (if_pos c_1).symm.trans hf
        exact J49 x5 hf _ _ hP hS _ (lv_sub hl [5] rfl)
      · have hf := (if_neg c_1).symm.trans hf
        refine lv_iload hx hb dX5_difference_14 (lv_at hl 5 rfl) ?_
        refine lv_if_ne (tgt := 49) hx hb dX5_difference_16 (by decide) (fun c_2 => ?_) (fun c_2 => ?_)
        · have hf := (if_neg c_2).symm.trans hf
          exact J49 x5 hf _ _ hP hS _ (lv_sub hl [5] rfl)
        · have hf := (if_pos c_2).symm.trans hf
          refine lv_aload_n hx hb dX5_difference_19 rfl (lv_at hl 0 rfl) ?_
          refine lv_iload_n hx hb dX5_difference_20 rfl (lv_at hl 1 rfl) ?_
          refine lv_iload_n hx hb dX5_difference_21 rfl (lv_at hl 2 rfl) ?_
          refine lv_iload_n hx hb dX5_difference_22 rfl (lv_at hl 3 rfl) ?_
          refine lv_iload hx hb dX5_difference_23 (lv_at hl 6 rfl) ?_
          refine lv_iadd hx hb dX5_difference_25 ?_
          obtain ⟨r26, hc, hf⟩ := bn_some hf
          try dsimp only at hf
          refine g_call0 (ws' := (w_1_2 q cI cJ cD Tn Ta)) (st1 := [.int r26]) hq [1, 2] [1, 2] [.inl 0, .inl 1] (va_runS (As := [.ref (q 1), .int x1, .int x2, .int (x3 + x6)]) (rest := []) ⟨hx, hb, hml, hown, hts⟩ (kX5_letter l D cI cJ cD q hq N Tn Ta x1 x2 (x3 + x6) r26 hc) (va_cwS 4 hts gX5_difference_X5_letter rfl rfl rfl (by decide +kernel) ⟨(Nat.le_of_ble_eq_true rfl), (Nat.le_of_ble_eq_true rfl)⟩) ⟨gP_blind, fun U hU hW => ⟨rfl, by rw [hU]; exact hP.sub (ws' := (w_1_2 q cI cJ cD Tn Ta)) [0, 1] rfl, gEv.warm hW hE⟩⟩ rfl rfl hl.1 rfl (lv_room (Nat.le_of_ble_eq_true rfl)) dX5_difference_26 ⟨Nat.zero_le _, Nat.zero_le _⟩) hP hS (gSub rfl) rfl rfl rfl rfl rfl (fun H locs hP hS => ?_)
          refine lv_aload_n hx hb dX5_difference_29 rfl (lv_at hl 0 rfl) ?_
          refine lv_iload_n hx hb dX5_difference_30 rfl (lv_at hl 1 rfl) ?_
          refine lv_iload_n hx hb dX5_difference_31 rfl (lv_at hl 2 rfl) ?_
          refine lv_iload hx hb dX5_difference_32 (lv_at hl 4 rfl) ?_
          refine lv_iload hx hb dX5_difference_34 (lv_at hl 6 rfl) ?_
          refine lv_iadd hx hb dX5_difference_36 ?_
          obtain ⟨r37, hc, hf⟩ := bn_some hf
          try dsimp only at hf
          refine g_call0 (ws' := (w_1_2 q cI cJ cD Tn Ta)) (st1 := [.int r37, .int r26]) hq [1, 2] [1, 2] [.inl 0, .inl 1] (va_runS (As := [.ref (q 1), .int x1, .int x2, .int (x4 + x6)]) (rest := [.int r26]) ⟨hx, hb, hml, hown, hts⟩ (kX5_letter l D cI cJ cD q hq N Tn Ta x1 x2 (x4 + x6) r37 hc) (va_cwS 4 hts gX5_difference_X5_letter rfl rfl rfl (by decide +kernel) ⟨(Nat.le_of_ble_eq_true rfl), (Nat.le_of_ble_eq_true rfl)⟩) ⟨gP_blind, fun U hU hW => ⟨rfl, by rw [hU]; exact hP.sub (ws' := (w_1_2 q cI cJ cD Tn Ta)) [0, 1] rfl, gEv.warm hW hE⟩⟩ rfl rfl hl.1 rfl (lv_room (Nat.le_of_ble_eq_true rfl)) dX5_difference_37 ⟨Nat.zero_le _, Nat.zero_le _⟩) hP hS (gSub rfl) rfl rfl rfl rfl rfl (fun H locs hP hS => ?_)
          refine lv_isub hx hb dX5_difference_40 ?_
          refine lv_istore (lv' := [(5, .int (r26 - r37)), (0, .ref (q 1)), (1, .int x1), (2, .int x2), (3, .int x3), (4, .int x4), (6, .int x6)]) hx hb dX5_difference_41 hl (by decide) rfl (fun ls hl => ?_)
          refine lv_iinc (v := (x6 + 1)) (lv' := [(6, .int (x6 + 1)), (5, .int (r26 - r37)), (0, .ref (q 1)), (1, .int x1), (2, .int x2), (3, .int x3), (4, .int x4)]) hx hb dX5_difference_43 hl (k := 6) rfl rfl (by decide) rfl (fun ls hl => ?_)
          refine lv_goto (tgt := 6) hx hb dX5_difference_46 (by decide) ?_
          exact ih6 x1 x2 x3 x4 (r26 - r37) (x6 + 1) hf _ _ hP hS _ (lv_sub hl [2, 3, 4, 5, 6, 1, 0] rfl)
  unfold fX5_difference at hf
  refine lv_iconst (v := (0 : Int32)) hx hb dX5_difference_0 (by decide) ?_
  refine lv_istore (lv' := [(5, .int (0 : Int32)), (0, .ref (q 1)), (1, .int p1), (2, .int p2), (3, .int p3), (4, .int p4)]) hx hb dX5_difference_1 hl (by decide) rfl (fun ls hl => ?_)
  refine lv_iconst (v := (0 : Int32)) hx hb dX5_difference_3 (by decide) ?_
  refine lv_istore (lv' := [(6, .int (0 : Int32)), (5, .int (0 : Int32)), (0, .ref (q 1)), (1, .int p1), (2, .int p2), (3, .int p3), (4, .int p4)]) hx hb dX5_difference_4 hl (by decide) rfl (fun ls hl => ?_)
  exact K6 N p1 p2 p3 p4 (0 : Int32) (0 : Int32) hf _ _ hP hS _ (lv_sub hl [2, 3, 4, 5, 6, 1, 0] rfl)
set_option maxHeartbeats 4000000 in
set_option maxRecDepth 100000 in
theorem kX5_least (l : Launch) (D : va_G) (cI cJ cD : ClassId) (q : Nat → Nat) (hq : gInj 14 q) (N : Nat) (Tn : Int32) (Ta : (Nat → Int32)) (p1 : Int32) (p2 : Int32) (r0 : Int32) (hf : fX5_least N Tn Ta p1 p2 = some r0) : Met l yX5_least wsX5_least rX5_least (gP D cI cJ cD [.ref (q 1), .int p1, .int p2] (w_1_2 q cI cJ cD Tn Ta)) (gQ D (some (.int r0)) (w_1_2 q cI cJ cD Tn Ta) (gA q [1, 2])) 0 0 (gA q [1, 2]) := by
  refine Met.ofW (cc := cX5_least) (maxL := 5) (ret := (some .int)) (by decide +kernel) rfl ?_
  intro p e s m args below meth c s₁ B hml hv
  obtain ⟨rfl, hP, hE⟩ := hv
  have hx := B.exec
  have hb := B.bytes
  have hr := B.returns
  have hts := atoms_spec (ws := wsX5_least) B.pre
  have hown : s.vm.findClass RX5 = some m.cls := findClass_of_methodNamed B.named
  have hlocks := B.notSynchronized
  have hS : va_S (gA q [1, 2]) s.heap s.heap [] := va_S.rf
  have hl := lv_entry ([.ref (q 1), .int p1, .int p2]) (n := 5) (Nat.le_of_ble_eq_true rfl)
  rw [lg_entry_eq]
  generalize (lg_sl ([.ref (q 1), .int p1, .int p2]) ++ List.replicate (5 - (lg_sl ([.ref (q 1), .int p1, .int p2])).length) Slot.unset).toArray = ls at hl ⊢
  have hl : lv_has ls 5 [(0, .ref (q 1)), (1, .int p1), (2, .int p2)] := hl
  have J34 : ∀ (x3 : Int32), fX5_least_J34 N Tn Ta x3 = some r0 → ∀ (H : Heap) (locs : List Loc), va_P D vwCl (w_1_2 q cI cJ cD Tn Ta) H → va_S (gA q [1, 2]) s.heap H locs → ∀ ls : Array Slot, lv_has ls 5 [(3, .int x3)] → W p l e (headSpec wsX5_least rX5_least).room s m ([.ref (q 1), .int p1, .int p2] : List Value).toArray below meth c H locs 0 0 (MQ below (gQ D (some (.int r0)) (w_1_2 q cI cJ cD Tn Ta) (gA q [1, 2])) ([.ref (q 1), .int p1, .int p2] : List Value).toArray s 0 0 (gA q [1, 2])) (F0 m 34 ls []) := by
    intro x3 hf H locs hP hS ls hl
    unfold fX5_least_J34 at hf
    refine lv_iload_n hx hb dX5_least_34 rfl (lv_at hl 0 rfl) ?_
    cases hf
    exact W.iret hx hb hr (fun t ht hW => ⟨⟨rfl, by rw [ht]; exact hP⟩, hS.F ht⟩) hS.2.2 dX5_least_35
  have K5 : ∀ (n5 : Nat) (x1 : Int32) (x2 : Int32) (x3 : Int32) (x4 : Int32), fX5_least_H5 N Tn Ta n5 x1 x2 x3 x4 = some r0 → ∀ (H : Heap) (locs : List Loc), va_P D vwCl (w_1_2 q cI cJ cD Tn Ta) H → va_S (gA q [1, 2]) s.heap H locs → ∀ ls : Array Slot, lv_has ls 5 [(0, .ref (q 1)), (1, .int x1), (2, .int x2), (3, .int x3), (4, .int x4)] → W p l e (headSpec wsX5_least rX5_least).room s m ([.ref (q 1), .int p1, .int p2] : List Value).toArray below meth c H locs 0 0 (MQ below (gQ D (some (.int r0)) (w_1_2 q cI cJ cD Tn Ta) (gA q [1, 2])) ([.ref (q 1), .int p1, .int p2] : List Value).toArray s 0 0 (gA q [1, 2])) (F0 m 5 ls []) := by
    intro n5
    induction n5 with
    | zero =>
      intro x1 x2 x3 x4 hf
      exact nomatch (show (none : Option Int32) = some r0 from hf)
    | succ n5 ih5 =>
      have J28 : ∀ (x1 : Int32) (x2 : Int32) (x3 : Int32) (x4 : Int32), fX5_least_J28 N Tn Ta (fX5_least_H5 N Tn Ta n5) x1 x2 x3 x4 = some r0 → ∀ (H : Heap) (locs : List Loc), va_P D vwCl (w_1_2 q cI cJ cD Tn Ta) H → va_S (gA q [1, 2]) s.heap H locs → ∀ ls : Array Slot, lv_has ls 5 [(0, .ref (q 1)), (1, .int x1), (2, .int x2), (3, .int x3), (4, .int x4)] → W p l e (headSpec wsX5_least rX5_least).room s m ([.ref (q 1), .int p1, .int p2] : List Value).toArray below meth c H locs 0 0 (MQ below (gQ D (some (.int r0)) (w_1_2 q cI cJ cD Tn Ta) (gA q [1, 2])) ([.ref (q 1), .int p1, .int p2] : List Value).toArray s 0 0 (gA q [1, 2])) (F0 m 28 ls []) := by
        intro x1 x2 x3 x4 hf H locs hP hS ls hl
        unfold fX5_least_J28 at hf
        refine lv_iinc (v := (x4 + 1)) (lv' := [(4, .int (x4 + 1)), (0, .ref (q 1)), (1, .int x1), (2, .int x2), (3, .int x3)]) hx hb dX5_least_28 hl (k := 4) rfl rfl (by decide) rfl (fun ls hl => ?_)
        refine lv_goto (tgt := 5) hx hb dX5_least_31 (by decide) ?_
        exact ih5 x1 x2 x3 (x4 + 1) hf _ _ hP hS _ (lv_sub hl [1, 2, 3, 4, 0] rfl)
      intro x1 x2 x3 x4 hf H locs hP hS ls hl
      have hf : fX5_least_B5 N Tn Ta (fX5_least_H5 N Tn Ta n5) x1 x2 x3 x4 = some r0 := hf
      unfold fX5_least_B5 at hf
      refine lv_iload hx hb dX5_least_5 (lv_at hl 4 rfl) ?_
      refine lv_iload_n hx hb dX5_least_7 rfl (lv_at hl 2 rfl) ?_
      refine lv_iload_n hx hb dX5_least_8 rfl (lv_at hl 1 rfl) ?_
      refine lv_isub hx hb dX5_least_9 ?_
      refine lv_icmp_ge (tgt := 34) hx hb dX5_least_10 (by decide) (fun c_1 => ?_) (fun c_1 => ?_)
      · have hf := (if_pos c_1).symm.trans hf
        exact J34 x3 hf _ _ hP hS _ (lv_sub hl [3] rfl)
      · have hf := (if_neg c_1).symm.trans hf
        refine lv_aload_n hx hb dX5_least_13 rfl (lv_at hl 0 rfl) ?_
        refine lv_iload_n hx hb dX5_least_14 rfl (lv_at hl 1 rfl) ?_
        refine lv_iload_n hx hb dX5_least_15 rfl (lv_at hl 2 rfl) ?_
        refine lv_iload hx hb dX5_least_16 (lv_at hl 4 rfl) ?_
        refine lv_iload_n hx hb dX5_least_18 rfl (lv_at hl 3 rfl) ?_
        obtain ⟨r19, hc, hf⟩ := bn_some hf
        try dsimp only at hf
        refine g_call0 (ws' := (w_1_2 q cI cJ cD Tn Ta)) (st1 := [.int r19]) hq [1, 2] [1, 2] [.inl 0, .inl 1] (va_runS (As := [.ref (q 1), .int x1, .int x2, .int x4, .int x3]) (rest := []) ⟨hx, hb, hml, hown, hts⟩ (kX5_difference l D cI cJ cD q hq N Tn Ta x1 x2 x4 x3 r19 hc) (va_cwS 5 hts gX5_least_X5_difference rfl rfl rfl (by decide +kernel) ⟨(Nat.le_of_ble_eq_true rfl), (Nat.le_of_ble_eq_true rfl)⟩) ⟨gP_blind, fun U hU hW => ⟨rfl, by rw [hU]; exact hP.sub (ws' := (w_1_2 q cI cJ cD Tn Ta)) [0, 1] rfl, gEv.warm hW hE⟩⟩ rfl rfl hl.1 rfl (lv_room (Nat.le_of_ble_eq_true rfl)) dX5_least_19 ⟨Nat.zero_le _, Nat.zero_le _⟩) hP hS (gSub rfl) rfl rfl rfl rfl rfl (fun H locs hP hS => ?_)
        refine lv_if_ge (tgt := 28) hx hb dX5_least_22 (by decide) (fun c_2 => ?_) (fun c_2 => ?_)
        · have hf := (if_pos c_2).symm.trans hf
          exact J28 x1 x2 x3 x4 hf _ _ hP hS _ (lv_sub hl [0, 1, 2, 3, 4] rfl)
        · have hf := (if_neg c_2).symm.trans hf
          refine lv_iload hx hb dX5_least_25 (lv_at hl 4 rfl) ?_
          refine lv_istore_n (lv' := [(3, .int x4), (0, .ref (q 1)), (1, .int x1), (2, .int x2), (4, .int x4)]) hx hb dX5_least_27 rfl hl (by decide) rfl (fun ls hl => ?_)
          exact J28 x1 x2 x4 x4 hf _ _ hP hS _ (lv_sub hl [1, 2, 3, 0, 4] rfl)
  unfold fX5_least at hf
  refine lv_iconst (v := (0 : Int32)) hx hb dX5_least_0 (by decide) ?_
  refine lv_istore_n (lv' := [(3, .int (0 : Int32)), (0, .ref (q 1)), (1, .int p1), (2, .int p2)]) hx hb dX5_least_1 rfl hl (by decide) rfl (fun ls hl => ?_)
  refine lv_iconst (v := (1 : Int32)) hx hb dX5_least_2 (by decide) ?_
  refine lv_istore (lv' := [(4, .int (1 : Int32)), (3, .int (0 : Int32)), (0, .ref (q 1)), (1, .int p1), (2, .int p2)]) hx hb dX5_least_3 hl (by decide) rfl (fun ls hl => ?_)
  exact K5 N p1 p2 (0 : Int32) (1 : Int32) hf _ _ hP hS _ (lv_sub hl [2, 3, 4, 1, 0] rfl)
set_option maxHeartbeats 4000000 in
set_option maxRecDepth 100000 in
theorem kX5_greatest (l : Launch) (D : va_G) (cI cJ cD : ClassId) (q : Nat → Nat) (hq : gInj 14 q) (N : Nat) (Tn : Int32) (Ta : (Nat → Int32)) (p1 : Int32) (p2 : Int32) (r0 : Int32) (hf : fX5_greatest N Tn Ta p1 p2 = some r0) : Met l yX5_greatest wsX5_greatest rX5_greatest (gP D cI cJ cD [.ref (q 1), .int p1, .int p2] (w_1_2 q cI cJ cD Tn Ta)) (gQ D (some (.int r0)) (w_1_2 q cI cJ cD Tn Ta) (gA q [1, 2])) 0 0 (gA q [1, 2]) := by
  refine Met.ofW (cc := cX5_greatest) (maxL := 5) (ret := (some .int)) (by decide +kernel) rfl ?_
  intro p e s m args below meth c s₁ B hml hv
  obtain ⟨rfl, hP, hE⟩ := hv
  have hx := B.exec
  have hb := B.bytes
  have hr := B.returns
  have hts := atoms_spec (ws := wsX5_greatest) B.pre
  have hown : s.vm.findClass RX5 = some m.cls := findClass_of_methodNamed B.named
  have hlocks := B.notSynchronized
  have hS : va_S (gA q [1, 2]) s.heap s.heap [] := va_S.rf
  have hl := lv_entry ([.ref (q 1), .int p1, .int p2]) (n := 5) (Nat.le_of_ble_eq_true rfl)
  rw [lg_entry_eq]
  generalize (lg_sl ([.ref (q 1), .int p1, .int p2]) ++ List.replicate (5 - (lg_sl ([.ref (q 1), .int p1, .int p2])).length) Slot.unset).toArray = ls at hl ⊢
  have hl : lv_has ls 5 [(0, .ref (q 1)), (1, .int p1), (2, .int p2)] := hl
  have J34 : ∀ (x3 : Int32), fX5_greatest_J34 N Tn Ta x3 = some r0 → ∀ (H : Heap) (locs : List Loc), va_P D vwCl (w_1_2 q cI cJ cD Tn Ta) H → va_S (gA q [1, 2]) s.heap H locs → ∀ ls : Array Slot, lv_has ls 5 [(3, .int x3)] → W p l e (headSpec wsX5_greatest rX5_greatest).room s m ([.ref (q 1), .int p1, .int p2] : List Value).toArray below meth c H locs 0 0 (MQ below (gQ D (some (.int r0)) (w_1_2 q cI cJ cD Tn Ta) (gA q [1, 2])) ([.ref (q 1), .int p1, .int p2] : List Value).toArray s 0 0 (gA q [1, 2])) (F0 m 34 ls []) := by
    intro x3 hf H locs hP hS ls hl
    unfold fX5_greatest_J34 at hf
    refine lv_iload_n hx hb dX5_greatest_34 rfl (lv_at hl 0 rfl) ?_
    cases hf
    exact W.iret hx hb hr (fun t ht hW => ⟨⟨rfl, by rw [ht]; exact hP⟩, hS.F ht⟩) hS.2.2 dX5_greatest_35
  have K5 : ∀ (n5 : Nat) (x1 : Int32) (x2 : Int32) (x3 : Int32) (x4 : Int32), fX5_greatest_H5 N Tn Ta n5 x1 x2 x3 x4 = some r0 → ∀ (H : Heap) (locs : List Loc), va_P D vwCl (w_1_2 q cI cJ cD Tn Ta) H → va_S (gA q [1, 2]) s.heap H locs → ∀ ls : Array Slot, lv_has ls 5 [(0, .ref (q 1)), (1, .int x1), (2, .int x2), (3, .int x3), (4, .int x4)] → W p l e (headSpec wsX5_greatest rX5_greatest).room s m ([.ref (q 1), .int p1, .int p2] : List Value).toArray below meth c H locs 0 0 (MQ below (gQ D (some (.int r0)) (w_1_2 q cI cJ cD Tn Ta) (gA q [1, 2])) ([.ref (q 1), .int p1, .int p2] : List Value).toArray s 0 0 (gA q [1, 2])) (F0 m 5 ls []) := by
    intro n5
    induction n5 with
    | zero =>
      intro x1 x2 x3 x4 hf
      exact nomatch (show (none : Option Int32) = some r0 from hf)
    | succ n5 ih5 =>
      have J28 : ∀ (x1 : Int32) (x2 : Int32) (x3 : Int32) (x4 : Int32), fX5_greatest_J28 N Tn Ta (fX5_greatest_H5 N Tn Ta n5) x1 x2 x3 x4 = some r0 → ∀ (H : Heap) (locs : List Loc), va_P D vwCl (w_1_2 q cI cJ cD Tn Ta) H → va_S (gA q [1, 2]) s.heap H locs → ∀ ls : Array Slot, lv_has ls 5 [(0, .ref (q 1)), (1, .int x1), (2, .int x2), (3, .int x3), (4, .int x4)] → W p l e (headSpec wsX5_greatest rX5_greatest).room s m ([.ref (q 1), .int p1, .int p2] : List Value).toArray below meth c H locs 0 0 (MQ below (gQ D (some (.int r0)) (w_1_2 q cI cJ cD Tn Ta) (gA q [1, 2])) ([.ref (q 1), .int p1, .int p2] : List Value).toArray s 0 0 (gA q [1, 2])) (F0 m 28 ls []) := by
        intro x1 x2 x3 x4 hf H locs hP hS ls hl
        unfold fX5_greatest_J28 at hf
        refine lv_iinc (v := (x4 + 1)) (lv' := [(4, .int (x4 + 1)), (0, .ref (q 1)), (1, .int x1), (2, .int x2), (3, .int x3)]) hx hb dX5_greatest_28 hl (k := 4) rfl rfl (by decide) rfl (fun ls hl => ?_)
        refine lv_goto (tgt := 5) hx hb dX5_greatest_31 (by decide) ?_
        exact ih5 x1 x2 x3 (x4 + 1) hf _ _ hP hS _ (lv_sub hl [1, 2, 3, 4, 0] rfl)
      intro x1 x2 x3 x4 hf H locs hP hS ls hl
      have hf : fX5_greatest_B5 N Tn Ta (fX5_greatest_H5 N Tn Ta n5) x1 x2 x3 x4 = some r0 := hf
      unfold fX5_greatest_B5 at hf
      refine lv_iload hx hb dX5_greatest_5 (lv_at hl 4 rfl) ?_
      refine lv_iload_n hx hb dX5_greatest_7 rfl (lv_at hl 2 rfl) ?_
      refine lv_iload_n hx hb dX5_greatest_8 rfl (lv_at hl 1 rfl) ?_
      refine lv_isub hx hb dX5_greatest_9 ?_
      refine lv_icmp_ge (tgt := 34) hx hb dX5_greatest_10 (by decide) (fun c_1 => ?_) (fun c_1 => ?_)
      · have hf := (if_pos c_1).symm.trans hf
        exact J34 x3 hf _ _ hP hS _ (lv_sub hl [3] rfl)
      · have hf := (if_neg c_1).symm.trans hf
        refine lv_aload_n hx hb dX5_greatest_13 rfl (lv_at hl 0 rfl) ?_
        refine lv_iload_n hx hb dX5_greatest_14 rfl (lv_at hl 1 rfl) ?_
        refine lv_iload_n hx hb dX5_greatest_15 rfl (lv_at hl 2 rfl) ?_
        refine lv_iload hx hb dX5_greatest_16 (lv_at hl 4 rfl) ?_
        refine lv_iload_n hx hb dX5_greatest_18 rfl (lv_at hl 3 rfl) ?_
        obtain ⟨r19, hc, hf⟩ := bn_some hf
        try dsimp only at hf
        refine g_call0 (ws' := (w_1_2 q cI cJ cD Tn Ta)) (st1 := [.int r19]) hq [1, 2] [1, 2] [.inl 0, .inl 1] (va_runS (As := [.ref (q 1), .int x1, .int x2, .int x4, .int x3]) (rest := []) ⟨hx, hb, hml, hown, hts⟩ (kX5_difference l D cI cJ cD q hq N Tn Ta x1 x2 x4 x3 r19 hc) (va_cwS 5 hts gX5_greatest_X5_difference rfl rfl rfl (by decide +kernel) ⟨(Nat.le_of_ble_eq_true rfl), (Nat.le_of_ble_eq_true rfl)⟩) ⟨gP_blind, fun U hU hW => ⟨rfl, by rw [hU]; exact hP.sub (ws' := (w_1_2 q cI cJ cD Tn Ta)) [0, 1] rfl, gEv.warm hW hE⟩⟩ rfl rfl hl.1 rfl (lv_room (Nat.le_of_ble_eq_true rfl)) dX5_greatest_19 ⟨Nat.zero_le _, Nat.zero_le _⟩) hP hS (gSub rfl) rfl rfl rfl rfl rfl (fun H locs hP hS => ?_)
        refine lv_if_le (tgt := 28) hx hb dX5_greatest_22 (by decide) (fun c_2 => ?_) (fun c_2 => ?_)
        · have hf := (if_pos c_2).symm.trans hf
          exact J28 x1 x2 x3 x4 hf _ _ hP hS _ (lv_sub hl [0, 1, 2, 3, 4] rfl)
        · have hf := (if_neg c_2).symm.trans hf
          refine lv_iload hx hb dX5_greatest_25 (lv_at hl 4 rfl) ?_
          refine lv_istore_n (lv' := [(3, .int x4), (0, .ref (q 1)), (1, .int x1), (2, .int x2), (4, .int x4)]) hx hb dX5_greatest_27 rfl hl (by decide) rfl (fun ls hl => ?_)
          exact J28 x1 x2 x4 x4 hf _ _ hP hS _ (lv_sub hl [1, 2, 3, 0, 4] rfl)
  unfold fX5_greatest at hf
  refine lv_iconst (v := (0 : Int32)) hx hb dX5_greatest_0 (by decide) ?_
  refine lv_istore_n (lv' := [(3, .int (0 : Int32)), (0, .ref (q 1)), (1, .int p1), (2, .int p2)]) hx hb dX5_greatest_1 rfl hl (by decide) rfl (fun ls hl => ?_)
  refine lv_iconst (v := (1 : Int32)) hx hb dX5_greatest_2 (by decide) ?_
  refine lv_istore (lv' := [(4, .int (1 : Int32)), (3, .int (0 : Int32)), (0, .ref (q 1)), (1, .int p1), (2, .int p2)]) hx hb dX5_greatest_3 hl (by decide) rfl (fun ls hl => ?_)
  exact K5 N p1 p2 (0 : Int32) (1 : Int32) hf _ _ hP hS _ (lv_sub hl [2, 3, 4, 1, 0] rfl)
set_option maxHeartbeats 4000000 in
set_option maxRecDepth 100000 in
theorem kX0_widened (l : Launch) (D : va_G) (cI cJ cD : ClassId) (q : Nat → Nat) (hq : gInj 14 q) (N : Nat) (Tn : Int32) (Ta : (Nat → Int32)) (Ba : (Nat → Int32)) (p2 : Int32) (p3 : Int32) (r0 : Int32) (hf : fX0_widened N Tn Ta Ba p2 p3 = some r0) : Met l yX0_widened wsX0_widened rX0_widened (gP D cI cJ cD [.ref (q 5), .ref (q 1), .int p2, .int p3] (w_1_2_5_6 q cI cJ cD Tn Ta Ba)) (gQ D (some (.int r0)) (w_1_2_5_6 q cI cJ cD Tn Ta Ba) (gA q [1, 2, 5, 6])) 0 0 (gA q [1, 2, 5, 6]) := by
  refine Met.ofW (cc := cX0_widened) (maxL := 7) (ret := (some .int)) (by decide +kernel) rfl ?_
  intro p e s m args below meth c s₁ B hml hv
  obtain ⟨rfl, hP, hE⟩ := hv
  have hx := B.exec
  have hb := B.bytes
  have hr := B.returns
  have hts := atoms_spec (ws := wsX0_widened) B.pre
  have hown : s.vm.findClass RX0 = some m.cls := findClass_of_methodNamed B.named
  have hlocks := B.notSynchronized
  have hS : va_S (gA q [1, 2, 5, 6]) s.heap s.heap [] := va_S.rf
  have hl := lv_entry ([.ref (q 5), .ref (q 1), .int p2, .int p3]) (n := 7) (Nat.le_of_ble_eq_true rfl)
  rw [lg_entry_eq]
  generalize (lg_sl ([.ref (q 5), .ref (q 1), .int p2, .int p3]) ++ List.replicate (7 - (lg_sl ([.ref (q 5), .ref (q 1), .int p2, .int p3])).length) Slot.unset).toArray = ls at hl ⊢
  have hl : lv_has ls 7 [(0, .ref (q 5)), (1, .ref (q 1)), (2, .int p2), (3, .int p3)] := hl
  have hk9 := hts (.fieldLink RX0 9 "LyndonText$Borders" "row" "[I") (by decide +kernel)
  have huX0 : ∀ w ∈ u_ws RX0 TX0 1, w ∈ wsX0_widened := by decide +kernel
  have J84 : ∀ (y0 : Int32), fX0_widened_J84 N Tn Ta Ba y0 = some r0 → ∀ (H : Heap) (locs : List Loc), va_P D vwCl (w_1_2_5_6 q cI cJ cD Tn Ta Ba) H → va_S (gA q [1, 2, 5, 6]) s.heap H locs → ∀ ls : Array Slot, lv_has ls 7 [] → W p l e (headSpec wsX0_widened rX0_widened).room s m ([.ref (q 5), .ref (q 1), .int p2, .int p3] : List Value).toArray below meth c H locs 0 0 (MQ below (gQ D (some (.int r0)) (w_1_2_5_6 q cI cJ cD Tn Ta Ba) (gA q [1, 2, 5, 6])) ([.ref (q 5), .ref (q 1), .int p2, .int p3] : List Value).toArray s 0 0 (gA q [1, 2, 5, 6])) (F0 m 84 ls [.int y0]) := by
    intro y0 hf H locs hP hS ls hl
    unfold fX0_widened_J84 at hf
    cases hf
    exact W.iret hx hb hr (fun t ht hW => ⟨⟨rfl, by rw [ht]; exact hP⟩, hS.F ht⟩) hS.2.2 dX0_widened_84
  have J63 : ∀ (x2 : Int32) (x4 : Int32) (x5 : Int32), fX0_widened_J63 N Tn Ta Ba x2 x4 x5 = some r0 → ∀ (H : Heap) (locs : List Loc), va_P D vwCl (w_1_2_5_6 q cI cJ cD Tn Ta Ba) H → va_S (gA q [1, 2, 5, 6]) s.heap H locs → ∀ ls : Array Slot, lv_has ls 7 [(1, .ref (q 1)), (2, .int x2), (4, .int x4), (5, .int x5)] → W p l e (headSpec wsX0_widened rX0_widened).room s m ([.ref (q 5), .ref (q 1), .int p2, .int p3] : List Value).toArray below meth c H locs 0 0 (MQ below (gQ D (some (.int r0)) (w_1_2_5_6 q cI cJ cD Tn Ta Ba) (gA q [1, 2, 5, 6])) ([.ref (q 5), .ref (q 1), .int p2, .int p3] : List Value).toArray s 0 0 (gA q [1, 2, 5, 6])) (F0 m 63 ls []) := by
    intro x2 x4 x5 hf H locs hP hS ls hl
    unfold fX0_widened_J63 at hf
    refine lv_aload_n hx hb dX0_widened_63 rfl (lv_at hl 0 rfl) ?_
    refine lv_iload_n hx hb dX0_widened_64 rfl (lv_at hl 1 rfl) ?_
    refine lv_iload hx hb dX0_widened_65 (lv_at hl 3 rfl) ?_
    refine lv_iadd hx hb dX0_widened_67 ?_
    obtain ⟨r68, hc, hf⟩ := bn_some hf
    try dsimp only at hf
    refine g_call0 (ws' := (w_1_2_5_6 q cI cJ cD Tn Ta Ba)) (st1 := [.int r68]) hq [1, 2, 5, 6] [1, 2] [.inl 0, .inl 1, .inr 2, .inr 3] (va_runV (As := [.int (x2 + x5)]) (rest := []) ⟨hx, hb, hml, hown, hts⟩ (kX2_letter l D cI cJ cD q hq N Tn Ta (x2 + x5) r68 hc) (cwV 1 hts gX0_widened_X2_letter rfl rfl rfl (by decide +kernel) ⟨(Nat.le_of_ble_eq_true rfl), (Nat.le_of_ble_eq_true rfl)⟩) ⟨gP_blind, va_recv hE.1 hP (ci := 2) (q0 := 0) rfl rfl, fun U hU hW => ⟨rfl, by rw [hU]; exact hP.sub (ws' := (w_1_2 q cI cJ cD Tn Ta)) [0, 1] rfl, gEv.warm hW hE⟩⟩ rfl rfl hl.1 rfl (lv_room (Nat.le_of_ble_eq_true rfl)) dX0_widened_68 ⟨Nat.zero_le _, Nat.zero_le _⟩) hP hS (gSub rfl) rfl rfl rfl rfl rfl (fun H locs hP hS => ?_)
    refine lv_iload hx hb dX0_widened_71 (lv_at hl 2 rfl) ?_
    refine lv_icmp_ne (tgt := 83) hx hb dX0_widened_73 (by decide) (fun c_1 => ?_) (fun c_1 => ?_)
    · have hf := (if_neg c_1).symm.trans hf
      refine lv_iconst (v := (0 : Int32)) hx hb dX0_widened_83 (by decide) ?_
      exact J84 (0 : Int32) hf _ _ hP hS _ (lv_sub hl [] rfl)
    · have hf := (if_pos c_1).symm.trans hf
      refine lv_iload hx hb dX0_widened_76 (lv_at hl 3 rfl) ?_
      refine lv_iconst (v := (1 : Int32)) hx hb dX0_widened_78 (by decide) ?_
      refine lv_iadd hx hb dX0_widened_79 ?_
      refine lv_goto (tgt := 84) hx hb dX0_widened_80 (by decide) ?_
      exact J84 (x5 + (1 : Int32)) hf _ _ hP hS _ (lv_sub hl [] rfl)
  have K22 : ∀ (n22 : Nat) (x2 : Int32) (x3 : Int32) (x4 : Int32) (x5 : Int32) (x6 : Int32), fX0_widened_H22 N Tn Ta Ba n22 x2 x3 x4 x5 x6 = some r0 → ∀ (H : Heap) (locs : List Loc), va_P D vwCl (w_1_2_5_6 q cI cJ cD Tn Ta Ba) H → va_S (gA q [1, 2, 5, 6]) s.heap H locs → ∀ ls : Array Slot, lv_has ls 7 [(0, .ref (q 5)), (1, .ref (q 1)), (2, .int x2), (3, .int x3), (4, .int x4), (5, .int x5), (6, .int x6)] → W p l e (headSpec wsX0_widened rX0_widened).room s m ([.ref (q 5), .ref (q 1), .int p2, .int p3] : List Value).toArray below meth c H locs 0 0 (MQ below (gQ D (some (.int r0)) (w_1_2_5_6 q cI cJ cD Tn Ta Ba) (gA q [1, 2, 5, 6])) ([.ref (q 5), .ref (q 1), .int p2, .int p3] : List Value).toArray s 0 0 (gA q [1, 2, 5, 6])) (F0 m 22 ls []) := by
    intro n22
    induction n22 with
    | zero =>
      intro x2 x3 x4 x5 x6 hf
      exact nomatch (show (none : Option Int32) = some r0 from hf)
    | succ n22 ih22 =>
      intro x2 x3 x4 x5 x6 hf H locs hP hS ls hl
      have hf : fX0_widened_B22 N Tn Ta Ba (fX0_widened_H22 N Tn Ta Ba n22) x2 x3 x4 x5 x6 = some r0 := hf
      unfold fX0_widened_B22 at hf
      refine lv_iload hx hb dX0_widened_22 (lv_at hl 6 rfl) ?_
      refine lv_iload_n hx hb dX0_widened_24 rfl (lv_at hl 3 rfl) ?_
      refine lv_icmp_ge (tgt := 63) hx hb dX0_widened_25 (by decide) (fun c_2 => ?_) (fun c_2 => ?_)
      · have hf := (if_pos c_2).symm.trans hf
        exact J63 x2 x4 x5 hf _ _ hP hS _ (lv_sub hl [1, 2, 4, 5] rfl)
      · have hf := (if_neg c_2).symm.trans hf
        refine lv_iload hx hb dX0_widened_28 (lv_at hl 5 rfl) ?_
        refine lv_if_le (tgt := 63) hx hb dX0_widened_30 (by decide) (fun c_3 => ?_) (fun c_3 => ?_)
        · have hf := (if_pos c_3).symm.trans hf
          exact J63 x2 x4 x5 hf _ _ hP hS _ (lv_sub hl [1, 2, 4, 5] rfl)
        · have hf := (if_neg c_3).symm.trans hf
          refine lv_aload_n hx hb dX0_widened_33 rfl (lv_at hl 1 rfl) ?_
          refine lv_iload_n hx hb dX0_widened_34 rfl (lv_at hl 2 rfl) ?_
          refine lv_iload hx hb dX0_widened_35 (lv_at hl 5 rfl) ?_
          refine lv_iadd hx hb dX0_widened_37 ?_
          obtain ⟨r38, hc, hf⟩ := bn_some hf
          try dsimp only at hf
          refine g_call0 (ws' := (w_1_2_5_6 q cI cJ cD Tn Ta Ba)) (st1 := [.int r38]) hq [1, 2, 5, 6] [1, 2] [.inl 0, .inl 1, .inr 2, .inr 3] (va_runV (As := [.int (x2 + x5)]) (rest := []) ⟨hx, hb, hml, hown, hts⟩ (kX2_letter l D cI cJ cD q hq N Tn Ta (x2 + x5) r38 hc) (cwV 1 hts gX0_widened_X2_letter rfl rfl rfl (by decide +kernel) ⟨(Nat.le_of_ble_eq_true rfl), (Nat.le_of_ble_eq_true rfl)⟩) ⟨gP_blind, va_recv hE.1 hP (ci := 2) (q0 := 0) rfl rfl, fun U hU hW => ⟨rfl, by rw [hU]; exact hP.sub (ws' := (w_1_2 q cI cJ cD Tn Ta)) [0, 1] rfl, gEv.warm hW hE⟩⟩ rfl rfl hl.1 rfl (lv_room (Nat.le_of_ble_eq_true rfl)) dX0_widened_38 ⟨Nat.zero_le _, Nat.zero_le _⟩) hP hS (gSub rfl) rfl rfl rfl rfl rfl (fun H locs hP hS => ?_)
          refine lv_iload hx hb dX0_widened_41 (lv_at hl 4 rfl) ?_
          refine lv_icmp_eq (tgt := 63) hx hb dX0_widened_43 (by decide) (fun c_4 => ?_) (fun c_4 => ?_)
          · have hf := (if_pos c_4).symm.trans hf
            exact J63 x2 x4 x5 hf _ _ hP hS _ (lv_sub hl [1, 2, 4, 5] rfl)
          · have hf := (if_neg c_4).symm.trans hf
            refine lv_aload_n hx hb dX0_widened_46 rfl (lv_at hl 0 rfl) ?_
            refine va_get (D := D) (ci := 0) (v := .ref (q 6)) (C := RX0) (T := TX0) (N := 1) hx hb hts huX0 hown hE.1 hP 2 rfl rfl 0 (by decide) hk9 (fun _ h9 => h9) rfl dX0_widened_47 ?_
            refine lv_iload hx hb dX0_widened_50 (lv_at hl 5 rfl) ?_
            obtain ⟨r52, hc, hf⟩ := bn_some hf
            try dsimp only at hf
            refine g_call0 (ws' := (w_1_2_5_6 q cI cJ cD Tn Ta Ba)) (st1 := [.int r52]) hq [1, 2, 5, 6] [6] [.inr 0, .inr 1, .inr 2, .inl 0] (va_runSN (As := [.ref (q 6), .int x5]) (rest := []) ⟨hx, hb, hml, hown, hts⟩ (kX8_at l D cI cJ cD q hq 6 (by decide) N 65 Ba x5 r52 hc) ⟨va_cnB (host := RX8) 2 hts gX0_widened_X8_at_n23 rfl rfl rfl (hE.2 (.methodLinkNest RX0 23 yX8_at RX8) (by decide +kernel)) (hts (.initialized RX8) (by decide +kernel)) (by decide +kernel) ⟨(Nat.le_of_ble_eq_true rfl), (Nat.le_of_ble_eq_true rfl)⟩, hts (.static yX8_at) (by decide +kernel), trivial⟩ ⟨gP_blind, fun U hU hW => ⟨rfl, by rw [hU]; exact hP.sub (ws' := (w_G q cI 6 65 Ba)) [3] rfl, gEv.warm hW hE⟩⟩ rfl rfl hl.1 rfl (lv_room (Nat.le_of_ble_eq_true rfl)) dX0_widened_52 ⟨Nat.zero_le _, Nat.zero_le _⟩) hP hS (gSub rfl) rfl rfl rfl rfl rfl (fun H locs hP hS => ?_)
            refine lv_istore (lv' := [(5, .int r52), (0, .ref (q 5)), (1, .ref (q 1)), (2, .int x2), (3, .int x3), (4, .int x4), (6, .int x6)]) hx hb dX0_widened_55 hl (by decide) rfl (fun ls hl => ?_)
            refine lv_iinc (v := (x6 + 1)) (lv' := [(6, .int (x6 + 1)), (5, .int r52), (0, .ref (q 5)), (1, .ref (q 1)), (2, .int x2), (3, .int x3), (4, .int x4)]) hx hb dX0_widened_57 hl (k := 6) rfl rfl (by decide) rfl (fun ls hl => ?_)
            refine lv_goto (tgt := 22) hx hb dX0_widened_60 (by decide) ?_
            exact ih22 x2 x3 x4 r52 (x6 + 1) hf _ _ hP hS _ (lv_sub hl [2, 3, 4, 5, 6, 1, 0] rfl)
  unfold fX0_widened at hf
  refine lv_aload_n hx hb dX0_widened_0 rfl (lv_at hl 1 rfl) ?_
  refine lv_iload_n hx hb dX0_widened_1 rfl (lv_at hl 2 rfl) ?_
  refine lv_iload_n hx hb dX0_widened_2 rfl (lv_at hl 3 rfl) ?_
  refine lv_iadd hx hb dX0_widened_3 ?_
  obtain ⟨r4, hc, hf⟩ := bn_some hf
  try dsimp only at hf
  refine g_call0 (ws' := (w_1_2_5_6 q cI cJ cD Tn Ta Ba)) (st1 := [.int r4]) hq [1, 2, 5, 6] [1, 2] [.inl 0, .inl 1, .inr 2, .inr 3] (va_runV (As := [.int (p2 + p3)]) (rest := []) ⟨hx, hb, hml, hown, hts⟩ (kX2_letter l D cI cJ cD q hq N Tn Ta (p2 + p3) r4 hc) (cwV 1 hts gX0_widened_X2_letter rfl rfl rfl (by decide +kernel) ⟨(Nat.le_of_ble_eq_true rfl), (Nat.le_of_ble_eq_true rfl)⟩) ⟨gP_blind, va_recv hE.1 hP (ci := 2) (q0 := 0) rfl rfl, fun U hU hW => ⟨rfl, by rw [hU]; exact hP.sub (ws' := (w_1_2 q cI cJ cD Tn Ta)) [0, 1] rfl, gEv.warm hW hE⟩⟩ rfl rfl hl.1 rfl (lv_room (Nat.le_of_ble_eq_true rfl)) dX0_widened_4 ⟨Nat.zero_le _, Nat.zero_le _⟩) hP hS (gSub rfl) rfl rfl rfl rfl rfl (fun H locs hP hS => ?_)
  refine lv_istore (lv' := [(4, .int r4), (0, .ref (q 5)), (1, .ref (q 1)), (2, .int p2), (3, .int p3)]) hx hb dX0_widened_7 hl (by decide) rfl (fun ls hl => ?_)
  refine lv_aload_n hx hb dX0_widened_9 rfl (lv_at hl 1 rfl) ?_
  refine va_get (D := D) (ci := 0) (v := .ref (q 6)) (C := RX0) (T := TX0) (N := 1) hx hb hts huX0 hown hE.1 hP 2 rfl rfl 0 (by decide) hk9 (fun _ h9 => h9) rfl dX0_widened_10 ?_
  refine lv_iload_n hx hb dX0_widened_13 rfl (lv_at hl 4 rfl) ?_
  obtain ⟨r14, hc, hf⟩ := bn_some hf
  try dsimp only at hf
  refine g_call0 (ws' := (w_1_2_5_6 q cI cJ cD Tn Ta Ba)) (st1 := [.int r14]) hq [1, 2, 5, 6] [6] [.inr 0, .inr 1, .inr 2, .inl 0] (va_runSN (As := [.ref (q 6), .int p3]) (rest := []) ⟨hx, hb, hml, hown, hts⟩ (kX8_at l D cI cJ cD q hq 6 (by decide) N 65 Ba p3 r14 hc) ⟨va_cnB (host := RX8) 2 hts gX0_widened_X8_at_n23 rfl rfl rfl (hE.2 (.methodLinkNest RX0 23 yX8_at RX8) (by decide +kernel)) (hts (.initialized RX8) (by decide +kernel)) (by decide +kernel) ⟨(Nat.le_of_ble_eq_true rfl), (Nat.le_of_ble_eq_true rfl)⟩, hts (.static yX8_at) (by decide +kernel), trivial⟩ ⟨gP_blind, fun U hU hW => ⟨rfl, by rw [hU]; exact hP.sub (ws' := (w_G q cI 6 65 Ba)) [3] rfl, gEv.warm hW hE⟩⟩ rfl rfl hl.1 rfl (lv_room (Nat.le_of_ble_eq_true rfl)) dX0_widened_14 ⟨Nat.zero_le _, Nat.zero_le _⟩) hP hS (gSub rfl) rfl rfl rfl rfl rfl (fun H locs hP hS => ?_)
  refine lv_istore (lv' := [(5, .int r14), (4, .int r4), (0, .ref (q 5)), (1, .ref (q 1)), (2, .int p2), (3, .int p3)]) hx hb dX0_widened_17 hl (by decide) rfl (fun ls hl => ?_)
  refine lv_iconst (v := (0 : Int32)) hx hb dX0_widened_19 (by decide) ?_
  refine lv_istore (lv' := [(6, .int (0 : Int32)), (5, .int r14), (4, .int r4), (0, .ref (q 5)), (1, .ref (q 1)), (2, .int p2), (3, .int p3)]) hx hb dX0_widened_20 hl (by decide) rfl (fun ls hl => ?_)
  exact K22 N p2 p3 r4 r14 (0 : Int32) hf _ _ hP hS _ (lv_sub hl [3, 4, 5, 6, 2, 1, 0] rfl)
set_option maxHeartbeats 4000000 in
set_option maxRecDepth 100000 in
theorem kX0_longest (l : Launch) (D : va_G) (cI cJ cD : ClassId) (q : Nat → Nat) (hq : gInj 14 q) (N : Nat) (Tn : Int32) (Ta : (Nat → Int32)) (Ba : (Nat → Int32)) (p2 : Int32) (p3 : Int32) (r0 : Int32) (Ba9 : (Nat → Int32)) (hf : fX0_longest N Tn Ta Ba p2 p3 = some (r0, Ba9)) : Met l yX0_longest wsX0_longest rX0_longest (gP D cI cJ cD [.ref (q 5), .ref (q 1), .int p2, .int p3] (w_1_2_5_6 q cI cJ cD Tn Ta Ba)) (gQ D (some (.int r0)) (w_1_2_5_6 q cI cJ cD Tn Ta Ba9) (gA q [1, 2, 5, 6])) 0 0 (gA q [1, 2, 5, 6]) := by
  refine Met.ofW (cc := cX0_longest) (maxL := 5) (ret := (some .int)) (by decide +kernel) rfl ?_
  intro p e s m args below meth c s₁ B hml hv
  obtain ⟨rfl, hP, hE⟩ := hv
  have hx := B.exec
  have hb := B.bytes
  have hr := B.returns
  have hts := atoms_spec (ws := wsX0_longest) B.pre
  have hown : s.vm.findClass RX0 = some m.cls := findClass_of_methodNamed B.named
  have hlocks := B.notSynchronized
  have hS : va_S (gA q [1, 2, 5, 6]) s.heap s.heap [] := va_S.rf
  have hl := lv_entry ([.ref (q 5), .ref (q 1), .int p2, .int p3]) (n := 5) (Nat.le_of_ble_eq_true rfl)
  rw [lg_entry_eq]
  generalize (lg_sl ([.ref (q 5), .ref (q 1), .int p2, .int p3]) ++ List.replicate (5 - (lg_sl ([.ref (q 5), .ref (q 1), .int p2, .int p3])).length) Slot.unset).toArray = ls at hl ⊢
  have hl : lv_has ls 5 [(0, .ref (q 5)), (1, .ref (q 1)), (2, .int p2), (3, .int p3)] := hl
  have hk9 := hts (.fieldLink RX0 9 "LyndonText$Borders" "row" "[I") (by decide +kernel)
  have huX0 : ∀ w ∈ u_ws RX0 TX0 1, w ∈ wsX0_longest := by decide +kernel
  have J45 : ∀ (Ba : (Nat → Int32)) (x2 : Int32) (x3 : Int32), fX0_longest_J45 N Tn Ta Ba x2 x3 = some (r0, Ba9) → ∀ (H : Heap) (locs : List Loc), va_P D vwCl (w_1_2_5_6 q cI cJ cD Tn Ta Ba) H → va_S (gA q [1, 2, 5, 6]) s.heap H locs → ∀ ls : Array Slot, lv_has ls 5 [(0, .ref (q 5)), (2, .int x2), (3, .int x3)] → W p l e (headSpec wsX0_longest rX0_longest).room s m ([.ref (q 5), .ref (q 1), .int p2, .int p3] : List Value).toArray below meth c H locs 0 0 (MQ below (gQ D (some (.int r0)) (w_1_2_5_6 q cI cJ cD Tn Ta Ba9) (gA q [1, 2, 5, 6])) ([.ref (q 5), .ref (q 1), .int p2, .int p3] : List Value).toArray s 0 0 (gA q [1, 2, 5, 6])) (F0 m 45 ls []) := by
    intro Ba x2 x3 hf H locs hP hS ls hl
    unfold fX0_longest_J45 at hf
    refine lv_aload_n hx hb dX0_longest_45 rfl (lv_at hl 0 rfl) ?_
    refine va_get (D := D) (ci := 0) (v := .ref (q 6)) (C := RX0) (T := TX0) (N := 1) hx hb hts huX0 hown hE.1 hP 2 rfl rfl 0 (by decide) hk9 (fun _ h9 => h9) rfl dX0_longest_46 ?_
    refine lv_iload_n hx hb dX0_longest_49 rfl (lv_at hl 2 rfl) ?_
    refine lv_iload_n hx hb dX0_longest_50 rfl (lv_at hl 1 rfl) ?_
    refine lv_isub hx hb dX0_longest_51 ?_
    obtain ⟨r52, hc, hf⟩ := bn_some hf
    try dsimp only at hf
    refine g_call0 (ws' := (w_1_2_5_6 q cI cJ cD Tn Ta Ba)) (st1 := [.int r52]) hq [1, 2, 5, 6] [6] [.inr 0, .inr 1, .inr 2, .inl 0] (va_runSN (As := [.ref (q 6), .int (x3 - x2)]) (rest := []) ⟨hx, hb, hml, hown, hts⟩ (kX8_at l D cI cJ cD q hq 6 (by decide) N 65 Ba (x3 - x2) r52 hc) ⟨va_cnB (host := RX8) 2 hts gX0_longest_X8_at_n23 rfl rfl rfl (hE.2 (.methodLinkNest RX0 23 yX8_at RX8) (by decide +kernel)) (hts (.initialized RX8) (by decide +kernel)) (by decide +kernel) ⟨(Nat.le_of_ble_eq_true rfl), (Nat.le_of_ble_eq_true rfl)⟩, hts (.static yX8_at) (by decide +kernel), trivial⟩ ⟨gP_blind, fun U hU hW => ⟨rfl, by rw [hU]; exact hP.sub (ws' := (w_G q cI 6 65 Ba)) [3] rfl, gEv.warm hW hE⟩⟩ rfl rfl hl.1 rfl (lv_room (Nat.le_of_ble_eq_true rfl)) dX0_longest_52 ⟨Nat.zero_le _, Nat.zero_le _⟩) hP hS (gSub rfl) rfl rfl rfl rfl rfl (fun H locs hP hS => ?_)
    cases hf
    exact W.iret hx hb hr (fun t ht hW => ⟨⟨rfl, by rw [ht]; exact hP⟩, hS.F ht⟩) hS.2.2 dX0_longest_55
  have K12 : ∀ (n12 : Nat) (Ba : (Nat → Int32)) (x2 : Int32) (x3 : Int32) (x4 : Int32), fX0_longest_H12 N Tn Ta n12 Ba x2 x3 x4 = some (r0, Ba9) → ∀ (H : Heap) (locs : List Loc), va_P D vwCl (w_1_2_5_6 q cI cJ cD Tn Ta Ba) H → va_S (gA q [1, 2, 5, 6]) s.heap H locs → ∀ ls : Array Slot, lv_has ls 5 [(0, .ref (q 5)), (1, .ref (q 1)), (2, .int x2), (3, .int x3), (4, .int x4)] → W p l e (headSpec wsX0_longest rX0_longest).room s m ([.ref (q 5), .ref (q 1), .int p2, .int p3] : List Value).toArray below meth c H locs 0 0 (MQ below (gQ D (some (.int r0)) (w_1_2_5_6 q cI cJ cD Tn Ta Ba9) (gA q [1, 2, 5, 6])) ([.ref (q 5), .ref (q 1), .int p2, .int p3] : List Value).toArray s 0 0 (gA q [1, 2, 5, 6])) (F0 m 12 ls []) := by
    intro n12
    induction n12 with
    | zero =>
      intro Ba x2 x3 x4 hf
      exact nomatch (show (none : Option (Int32 × (Nat → Int32))) = some (r0, Ba9) from hf)
    | succ n12 ih12 =>
      intro Ba x2 x3 x4 hf H locs hP hS ls hl
      have hf : fX0_longest_B12 N Tn Ta (fX0_longest_H12 N Tn Ta n12) Ba x2 x3 x4 = some (r0, Ba9) := hf
      unfold fX0_longest_B12 at hf
      refine lv_iload hx hb dX0_longest_12 (lv_at hl 4 rfl) ?_
      refine lv_iload_n hx hb dX0_longest_14 rfl (lv_at hl 3 rfl) ?_
      refine lv_iload_n hx hb dX0_longest_15 rfl (lv_at hl 2 rfl) ?_
      refine lv_isub hx hb dX0_longest_16 ?_
      refine lv_icmp_ge (tgt := 45) hx hb dX0_longest_17 (by decide) (fun c_1 => ?_) (fun c_1 => ?_)
      · have hf := (if_pos c_1).symm.trans hf
        exact J45 Ba x2 x3 hf _ _ hP hS _ (lv_sub hl [0, 2, 3] rfl)
      · have hf := (if_neg c_1).symm.trans hf
        refine lv_aload_n hx hb dX0_longest_20 rfl (lv_at hl 0 rfl) ?_
        refine va_get (D := D) (ci := 0) (v := .ref (q 6)) (C := RX0) (T := TX0) (N := 1) hx hb hts huX0 hown hE.1 hP 2 rfl rfl 0 (by decide) hk9 (fun _ h9 => h9) rfl dX0_longest_21 ?_
        refine lv_iload hx hb dX0_longest_24 (lv_at hl 4 rfl) ?_
        refine lv_iconst (v := (1 : Int32)) hx hb dX0_longest_26 (by decide) ?_
        refine lv_iadd hx hb dX0_longest_27 ?_
        refine lv_aload_n hx hb dX0_longest_28 rfl (lv_at hl 0 rfl) ?_
        refine lv_aload_n hx hb dX0_longest_29 rfl (lv_at hl 1 rfl) ?_
        refine lv_iload_n hx hb dX0_longest_30 rfl (lv_at hl 2 rfl) ?_
        refine lv_iload hx hb dX0_longest_31 (lv_at hl 4 rfl) ?_
        obtain ⟨r33, hc, hf⟩ := bn_some hf
        try dsimp only at hf
        refine g_call0 (ws' := (w_1_2_5_6 q cI cJ cD Tn Ta Ba)) (st1 := [.int r33, .int (x4 + (1 : Int32)), .ref (q 6)]) hq [1, 2, 5, 6] [1, 2, 5, 6] [.inl 0, .inl 1, .inl 2, .inl 3] (va_runV (As := [.ref (q 1), .int x2, .int x4]) (rest := [.int (x4 + (1 : Int32)), .ref (q 6)]) ⟨hx, hb, hml, hown, hts⟩ (kX0_widened l D cI cJ cD q hq N Tn Ta Ba x2 x4 r33 hc) (cwV 3 hts gX0_longest_X0_widened rfl rfl rfl (by decide +kernel) ⟨(Nat.le_of_ble_eq_true rfl), (Nat.le_of_ble_eq_true rfl)⟩) ⟨gP_blind, va_recv hE.1 hP (ci := 0) (q0 := 2) rfl rfl, fun U hU hW => ⟨rfl, by rw [hU]; exact hP.sub (ws' := (w_1_2_5_6 q cI cJ cD Tn Ta Ba)) [0, 1, 2, 3] rfl, gEv.warm hW hE⟩⟩ rfl rfl hl.1 rfl (lv_room (Nat.le_of_ble_eq_true rfl)) dX0_longest_33 ⟨Nat.zero_le _, Nat.zero_le _⟩) hP hS (gSub rfl) rfl rfl rfl rfl rfl (fun H locs hP hS => ?_)
        obtain ⟨g36, hc, hf⟩ := bn_some hf
        try dsimp only at hf
        refine g_call0 (ws' := (w_1_2_5_6 q cI cJ cD Tn Ta g36)) (st1 := []) hq [1, 2, 5, 6] [6] [.inr 0, .inr 1, .inr 2, .inl 0] (va_runSN (As := [.ref (q 6), .int (x4 + (1 : Int32)), .int r33]) (rest := []) ⟨hx, hb, hml, hown, hts⟩ (kX8_put l D cI cJ cD q hq 6 (by decide) N 65 Ba (x4 + (1 : Int32)) r33 g36 hc) ⟨va_cnB (host := RX8) 3 hts gX0_longest_X8_put_n15 rfl rfl rfl (hE.2 (.methodLinkNest RX0 15 yX8_put RX8) (by decide +kernel)) (hts (.initialized RX8) (by decide +kernel)) (by decide +kernel) ⟨(Nat.le_of_ble_eq_true rfl), (Nat.le_of_ble_eq_true rfl)⟩, hts (.static yX8_put) (by decide +kernel), trivial⟩ ⟨gP_blind, fun U hU hW => ⟨rfl, by rw [hU]; exact hP.sub (ws' := (w_G q cI 6 65 Ba)) [3] rfl, gEv.warm hW hE⟩⟩ rfl rfl hl.1 rfl (lv_room (Nat.le_of_ble_eq_true rfl)) dX0_longest_36 ⟨Nat.zero_le _, Nat.zero_le _⟩) hP hS (gSub rfl) rfl rfl rfl rfl rfl (fun H locs hP hS => ?_)
        refine lv_iinc (v := (x4 + 1)) (lv' := [(4, .int (x4 + 1)), (0, .ref (q 5)), (1, .ref (q 1)), (2, .int x2), (3, .int x3)]) hx hb dX0_longest_39 hl (k := 4) rfl rfl (by decide) rfl (fun ls hl => ?_)
        refine lv_goto (tgt := 12) hx hb dX0_longest_42 (by decide) ?_
        exact ih12 g36 x2 x3 (x4 + 1) hf _ _ hP hS _ (lv_sub hl [1, 2, 3, 4, 0] rfl)
  unfold fX0_longest at hf
  refine lv_aload_n hx hb dX0_longest_0 rfl (lv_at hl 0 rfl) ?_
  refine va_get (D := D) (ci := 0) (v := .ref (q 6)) (C := RX0) (T := TX0) (N := 1) hx hb hts huX0 hown hE.1 hP 2 rfl rfl 0 (by decide) hk9 (fun _ h9 => h9) rfl dX0_longest_1 ?_
  refine lv_iconst (v := (1 : Int32)) hx hb dX0_longest_4 (by decide) ?_
  refine lv_iconst (v := (0 : Int32)) hx hb dX0_longest_5 (by decide) ?_
  obtain ⟨g6, hc, hf⟩ := bn_some hf
  try dsimp only at hf
  refine g_call0 (ws' := (w_1_2_5_6 q cI cJ cD Tn Ta g6)) (st1 := []) hq [1, 2, 5, 6] [6] [.inr 0, .inr 1, .inr 2, .inl 0] (va_runSN (As := [.ref (q 6), .int (1 : Int32), .int (0 : Int32)]) (rest := []) ⟨hx, hb, hml, hown, hts⟩ (kX8_put l D cI cJ cD q hq 6 (by decide) N 65 Ba (1 : Int32) (0 : Int32) g6 hc) ⟨va_cnB (host := RX8) 3 hts gX0_longest_X8_put_n15 rfl rfl rfl (hE.2 (.methodLinkNest RX0 15 yX8_put RX8) (by decide +kernel)) (hts (.initialized RX8) (by decide +kernel)) (by decide +kernel) ⟨(Nat.le_of_ble_eq_true rfl), (Nat.le_of_ble_eq_true rfl)⟩, hts (.static yX8_put) (by decide +kernel), trivial⟩ ⟨gP_blind, fun U hU hW => ⟨rfl, by rw [hU]; exact hP.sub (ws' := (w_G q cI 6 65 Ba)) [3] rfl, gEv.warm hW hE⟩⟩ rfl rfl hl.1 rfl (lv_room (Nat.le_of_ble_eq_true rfl)) dX0_longest_6 ⟨Nat.zero_le _, Nat.zero_le _⟩) hP hS (gSub rfl) rfl rfl rfl rfl rfl (fun H locs hP hS => ?_)
  refine lv_iconst (v := (1 : Int32)) hx hb dX0_longest_9 (by decide) ?_
  refine lv_istore (lv' := [(4, .int (1 : Int32)), (0, .ref (q 5)), (1, .ref (q 1)), (2, .int p2), (3, .int p3)]) hx hb dX0_longest_10 hl (by decide) rfl (fun ls hl => ?_)
  exact K12 N g6 p2 p3 (1 : Int32) hf _ _ hP hS _ (lv_sub hl [1, 2, 3, 4, 0] rfl)
set_option maxHeartbeats 4000000 in
set_option maxRecDepth 100000 in
theorem kX0_leastPeriod (l : Launch) (D : va_G) (cI cJ cD : ClassId) (q : Nat → Nat) (hq : gInj 14 q) (N : Nat) (Tn : Int32) (Ta : (Nat → Int32)) (Ba : (Nat → Int32)) (p2 : Int32) (p3 : Int32) (r0 : Int32) (Ba9 : (Nat → Int32)) (hf : fX0_leastPeriod N Tn Ta Ba p2 p3 = some (r0, Ba9)) : Met l yX0_leastPeriod wsX0_leastPeriod rX0_leastPeriod (gP D cI cJ cD [.ref (q 5), .ref (q 1), .int p2, .int p3] (w_1_2_5_6 q cI cJ cD Tn Ta Ba)) (gQ D (some (.int r0)) (w_1_2_5_6 q cI cJ cD Tn Ta Ba9) (gA q [1, 2, 5, 6])) 0 0 (gA q [1, 2, 5, 6]) := by
  refine Met.ofW (cc := cX0_leastPeriod) (maxL := 4) (ret := (some .int)) (by decide +kernel) rfl ?_
  intro p e s m args below meth c s₁ B hml hv
  obtain ⟨rfl, hP, hE⟩ := hv
  have hx := B.exec
  have hb := B.bytes
  have hr := B.returns
  have hts := atoms_spec (ws := wsX0_leastPeriod) B.pre
  have hown : s.vm.findClass RX0 = some m.cls := findClass_of_methodNamed B.named
  have hlocks := B.notSynchronized
  have hS : va_S (gA q [1, 2, 5, 6]) s.heap s.heap [] := va_S.rf
  have hl := lv_entry ([.ref (q 5), .ref (q 1), .int p2, .int p3]) (n := 4) (Nat.le_of_ble_eq_true rfl)
  rw [lg_entry_eq]
  generalize (lg_sl ([.ref (q 5), .ref (q 1), .int p2, .int p3]) ++ List.replicate (4 - (lg_sl ([.ref (q 5), .ref (q 1), .int p2, .int p3])).length) Slot.unset).toArray = ls at hl ⊢
  have hl : lv_has ls 4 [(0, .ref (q 5)), (1, .ref (q 1)), (2, .int p2), (3, .int p3)] := hl
  unfold fX0_leastPeriod at hf
  refine lv_iload_n hx hb dX0_leastPeriod_0 rfl (lv_at hl 3 rfl) ?_
  refine lv_iload_n hx hb dX0_leastPeriod_1 rfl (lv_at hl 2 rfl) ?_
  refine lv_isub hx hb dX0_leastPeriod_2 ?_
  refine lv_aload_n hx hb dX0_leastPeriod_3 rfl (lv_at hl 0 rfl) ?_
  refine lv_aload_n hx hb dX0_leastPeriod_4 rfl (lv_at hl 1 rfl) ?_
  refine lv_iload_n hx hb dX0_leastPeriod_5 rfl (lv_at hl 2 rfl) ?_
  refine lv_iload_n hx hb dX0_leastPeriod_6 rfl (lv_at hl 3 rfl) ?_
  obtain ⟨⟨r7, Ba7⟩, hc, hf⟩ := bn_some hf
  try dsimp only at hf
  refine g_call0 (ws' := (w_1_2_5_6 q cI cJ cD Tn Ta Ba7)) (st1 := [.int r7, .int (p3 - p2)]) hq [1, 2, 5, 6] [1, 2, 5, 6] [.inl 0, .inl 1, .inl 2, .inl 3] (va_runV (As := [.ref (q 1), .int p2, .int p3]) (rest := [.int (p3 - p2)]) ⟨hx, hb, hml, hown, hts⟩ (kX0_longest l D cI cJ cD q hq N Tn Ta Ba p2 p3 r7 Ba7 hc) (cwV 3 hts gX0_leastPeriod_X0_longest rfl rfl rfl (by decide +kernel) ⟨(Nat.le_of_ble_eq_true rfl), (Nat.le_of_ble_eq_true rfl)⟩) ⟨gP_blind, va_recv hE.1 hP (ci := 0) (q0 := 2) rfl rfl, fun U hU hW => ⟨rfl, by rw [hU]; exact hP.sub (ws' := (w_1_2_5_6 q cI cJ cD Tn Ta Ba)) [0, 1, 2, 3] rfl, gEv.warm hW hE⟩⟩ rfl rfl hl.1 rfl (lv_room (Nat.le_of_ble_eq_true rfl)) dX0_leastPeriod_7 ⟨Nat.zero_le _, Nat.zero_le _⟩) hP hS (gSub rfl) rfl rfl rfl rfl rfl (fun H locs hP hS => ?_)
  refine lv_isub hx hb dX0_leastPeriod_10 ?_
  cases hf
  exact W.iret hx hb hr (fun t ht hW => ⟨⟨rfl, by rw [ht]; exact hP⟩, hS.F ht⟩) hS.2.2 dX0_leastPeriod_11
set_option maxHeartbeats 4000000 in
set_option maxRecDepth 100000 in
theorem kX0_rootSize (l : Launch) (D : va_G) (cI cJ cD : ClassId) (q : Nat → Nat) (hq : gInj 14 q) (N : Nat) (Tn : Int32) (Ta : (Nat → Int32)) (Ba : (Nat → Int32)) (p2 : Int32) (p3 : Int32) (r0 : Int32) (Ba9 : (Nat → Int32)) (hf : fX0_rootSize N Tn Ta Ba p2 p3 = some (r0, Ba9)) : Met l yX0_rootSize wsX0_rootSize rX0_rootSize (gP D cI cJ cD [.ref (q 5), .ref (q 1), .int p2, .int p3] (w_1_2_5_6 q cI cJ cD Tn Ta Ba)) (gQ D (some (.int r0)) (w_1_2_5_6 q cI cJ cD Tn Ta Ba9) (gA q [1, 2, 5, 6])) 0 0 (gA q [1, 2, 5, 6]) := by
  refine Met.ofW (cc := cX0_rootSize) (maxL := 5) (ret := (some .int)) (by decide +kernel) rfl ?_
  intro p e s m args below meth c s₁ B hml hv
  obtain ⟨rfl, hP, hE⟩ := hv
  have hx := B.exec
  have hb := B.bytes
  have hr := B.returns
  have hts := atoms_spec (ws := wsX0_rootSize) B.pre
  have hown : s.vm.findClass RX0 = some m.cls := findClass_of_methodNamed B.named
  have hlocks := B.notSynchronized
  have hS : va_S (gA q [1, 2, 5, 6]) s.heap s.heap [] := va_S.rf
  have hl := lv_entry ([.ref (q 5), .ref (q 1), .int p2, .int p3]) (n := 5) (Nat.le_of_ble_eq_true rfl)
  rw [lg_entry_eq]
  generalize (lg_sl ([.ref (q 5), .ref (q 1), .int p2, .int p3]) ++ List.replicate (5 - (lg_sl ([.ref (q 5), .ref (q 1), .int p2, .int p3])).length) Slot.unset).toArray = ls at hl ⊢
  have hl : lv_has ls 5 [(0, .ref (q 5)), (1, .ref (q 1)), (2, .int p2), (3, .int p3)] := hl
  have J31 : ∀ (Ba : (Nat → Int32)) (y0 : Int32), fX0_rootSize_J31 N Tn Ta Ba y0 = some (r0, Ba9) → ∀ (H : Heap) (locs : List Loc), va_P D vwCl (w_1_2_5_6 q cI cJ cD Tn Ta Ba) H → va_S (gA q [1, 2, 5, 6]) s.heap H locs → ∀ ls : Array Slot, lv_has ls 5 [] → W p l e (headSpec wsX0_rootSize rX0_rootSize).room s m ([.ref (q 5), .ref (q 1), .int p2, .int p3] : List Value).toArray below meth c H locs 0 0 (MQ below (gQ D (some (.int r0)) (w_1_2_5_6 q cI cJ cD Tn Ta Ba9) (gA q [1, 2, 5, 6])) ([.ref (q 5), .ref (q 1), .int p2, .int p3] : List Value).toArray s 0 0 (gA q [1, 2, 5, 6])) (F0 m 31 ls [.int y0]) := by
    intro Ba y0 hf H locs hP hS ls hl
    unfold fX0_rootSize_J31 at hf
    cases hf
    exact W.iret hx hb hr (fun t ht hW => ⟨⟨rfl, by rw [ht]; exact hP⟩, hS.F ht⟩) hS.2.2 dX0_rootSize_31
  have J28 : ∀ (Ba : (Nat → Int32)) (x2 : Int32) (x3 : Int32), fX0_rootSize_J28 N Tn Ta Ba x2 x3 = some (r0, Ba9) → ∀ (H : Heap) (locs : List Loc), va_P D vwCl (w_1_2_5_6 q cI cJ cD Tn Ta Ba) H → va_S (gA q [1, 2, 5, 6]) s.heap H locs → ∀ ls : Array Slot, lv_has ls 5 [(2, .int x2), (3, .int x3)] → W p l e (headSpec wsX0_rootSize rX0_rootSize).room s m ([.ref (q 5), .ref (q 1), .int p2, .int p3] : List Value).toArray below meth c H locs 0 0 (MQ below (gQ D (some (.int r0)) (w_1_2_5_6 q cI cJ cD Tn Ta Ba9) (gA q [1, 2, 5, 6])) ([.ref (q 5), .ref (q 1), .int p2, .int p3] : List Value).toArray s 0 0 (gA q [1, 2, 5, 6])) (F0 m 28 ls []) := by
    intro Ba x2 x3 hf H locs hP hS ls hl
    unfold fX0_rootSize_J28 at hf
    refine lv_iload_n hx hb dX0_rootSize_28 rfl (lv_at hl 1 rfl) ?_
    refine lv_iload_n hx hb dX0_rootSize_29 rfl (lv_at hl 0 rfl) ?_
    refine lv_isub hx hb dX0_rootSize_30 ?_
    exact J31 Ba (x3 - x2) hf _ _ hP hS _ (lv_sub hl [] rfl)
  unfold fX0_rootSize at hf
  refine lv_aload_n hx hb dX0_rootSize_0 rfl (lv_at hl 0 rfl) ?_
  refine lv_aload_n hx hb dX0_rootSize_1 rfl (lv_at hl 1 rfl) ?_
  refine lv_iload_n hx hb dX0_rootSize_2 rfl (lv_at hl 2 rfl) ?_
  refine lv_iload_n hx hb dX0_rootSize_3 rfl (lv_at hl 3 rfl) ?_
  obtain ⟨⟨r4, Ba4⟩, hc, hf⟩ := bn_some hf
  try dsimp only at hf
  refine g_call0 (ws' := (w_1_2_5_6 q cI cJ cD Tn Ta Ba4)) (st1 := [.int r4]) hq [1, 2, 5, 6] [1, 2, 5, 6] [.inl 0, .inl 1, .inl 2, .inl 3] (va_runV (As := [.ref (q 1), .int p2, .int p3]) (rest := []) ⟨hx, hb, hml, hown, hts⟩ (kX0_leastPeriod l D cI cJ cD q hq N Tn Ta Ba p2 p3 r4 Ba4 hc) (cwV 3 hts gX0_rootSize_X0_leastPeriod rfl rfl rfl (by decide +kernel) ⟨(Nat.le_of_ble_eq_true rfl), (Nat.le_of_ble_eq_true rfl)⟩) ⟨gP_blind, va_recv hE.1 hP (ci := 0) (q0 := 2) rfl rfl, fun U hU hW => ⟨rfl, by rw [hU]; exact hP.sub (ws' := (w_1_2_5_6 q cI cJ cD Tn Ta Ba)) [0, 1, 2, 3] rfl, gEv.warm hW hE⟩⟩ rfl rfl hl.1 rfl (lv_room (Nat.le_of_ble_eq_true rfl)) dX0_rootSize_4 ⟨Nat.zero_le _, Nat.zero_le _⟩) hP hS (gSub rfl) rfl rfl rfl rfl rfl (fun H locs hP hS => ?_)
  refine lv_istore (lv' := [(4, .int r4), (0, .ref (q 5)), (1, .ref (q 1)), (2, .int p2), (3, .int p3)]) hx hb dX0_rootSize_7 hl (by decide) rfl (fun ls hl => ?_)
  refine lv_iload hx hb dX0_rootSize_9 (lv_at hl 0 rfl) ?_
  refine lv_if_le (tgt := 28) hx hb dX0_rootSize_11 (by decide) (fun c_1 => ?_) (fun c_1 => ?_)
  · have hf := (if_pos c_1).symm.trans hf
    exact J28 Ba4 p2 p3 hf _ _ hP hS _ (lv_sub hl [3, 4] rfl)
  · have hf := (if_neg c_1).symm.trans hf
    refine lv_iload_n hx hb dX0_rootSize_14 rfl (lv_at hl 4 rfl) ?_
    refine lv_iload_n hx hb dX0_rootSize_15 rfl (lv_at hl 3 rfl) ?_
    refine lv_isub hx hb dX0_rootSize_16 ?_
    refine lv_iload hx hb dX0_rootSize_17 (lv_at hl 0 rfl) ?_
    obtain ⟨g_2, hf⟩ := gd_some hf
    refine lv_irem hx hb dX0_rootSize_19 (nz_ne g_2) ?_
    refine lv_if_ne (tgt := 28) hx hb dX0_rootSize_20 (by decide) (fun c_3 => ?_) (fun c_3 => ?_)
    · have hf := (if_neg c_3).symm.trans hf
      exact J28 Ba4 p2 p3 hf _ _ hP hS _ (lv_sub hl [3, 4] rfl)
    · have hf := (if_pos c_3).symm.trans hf
      refine lv_iload hx hb dX0_rootSize_23 (lv_at hl 0 rfl) ?_
      refine lv_goto (tgt := 31) hx hb dX0_rootSize_25 (by decide) ?_
      exact J31 Ba4 r4 hf _ _ hP hS _ (lv_sub hl [] rfl)
set_option maxHeartbeats 4000000 in
set_option maxRecDepth 100000 in
theorem kX0_countAll (l : Launch) (D : va_G) (cI cJ cD : ClassId) (q : Nat → Nat) (hq : gInj 14 q) (N : Nat) (Tn : Int32) (Ta : (Nat → Int32)) (Ba : (Nat → Int32)) (p2 : Int32) (p3 : Int32) (r0 : Int32) (Ba9 : (Nat → Int32)) (hf : fX0_countAll N Tn Ta Ba p2 p3 = some (r0, Ba9)) : Met l yX0_countAll wsX0_countAll rX0_countAll (gP D cI cJ cD [.ref (q 5), .ref (q 1), .int p2, .int p3] (w_1_2_5_6 q cI cJ cD Tn Ta Ba)) (gQ D (some (.int r0)) (w_1_2_5_6 q cI cJ cD Tn Ta Ba9) (gA q [1, 2, 5, 6])) 0 0 (gA q [1, 2, 5, 6]) := by
  refine Met.ofW (cc := cX0_countAll) (maxL := 6) (ret := (some .int)) (by decide +kernel) rfl ?_
  intro p e s m args below meth c s₁ B hml hv
  obtain ⟨rfl, hP, hE⟩ := hv
  have hx := B.exec
  have hb := B.bytes
  have hr := B.returns
  have hts := atoms_spec (ws := wsX0_countAll) B.pre
  have hown : s.vm.findClass RX0 = some m.cls := findClass_of_methodNamed B.named
  have hlocks := B.notSynchronized
  have hS : va_S (gA q [1, 2, 5, 6]) s.heap s.heap [] := va_S.rf
  have hl := lv_entry ([.ref (q 5), .ref (q 1), .int p2, .int p3]) (n := 6) (Nat.le_of_ble_eq_true rfl)
  rw [lg_entry_eq]
  generalize (lg_sl ([.ref (q 5), .ref (q 1), .int p2, .int p3]) ++ List.replicate (6 - (lg_sl ([.ref (q 5), .ref (q 1), .int p2, .int p3])).length) Slot.unset).toArray = ls at hl ⊢
  have hl : lv_has ls 6 [(0, .ref (q 5)), (1, .ref (q 1)), (2, .int p2), (3, .int p3)] := hl
  have hk9 := hts (.fieldLink RX0 9 "LyndonText$Borders" "row" "[I") (by decide +kernel)
  have huX0 : ∀ w ∈ u_ws RX0 TX0 1, w ∈ wsX0_countAll := by decide +kernel
  have J41 : ∀ (Ba : (Nat → Int32)) (x5 : Int32), fX0_countAll_J41 N Tn Ta Ba x5 = some (r0, Ba9) → ∀ (H : Heap) (locs : List Loc), va_P D vwCl (w_1_2_5_6 q cI cJ cD Tn Ta Ba) H → va_S (gA q [1, 2, 5, 6]) s.heap H locs → ∀ ls : Array Slot, lv_has ls 6 [(5, .int x5)] → W p l e (headSpec wsX0_countAll rX0_countAll).room s m ([.ref (q 5), .ref (q 1), .int p2, .int p3] : List Value).toArray below meth c H locs 0 0 (MQ below (gQ D (some (.int r0)) (w_1_2_5_6 q cI cJ cD Tn Ta Ba9) (gA q [1, 2, 5, 6])) ([.ref (q 5), .ref (q 1), .int p2, .int p3] : List Value).toArray s 0 0 (gA q [1, 2, 5, 6])) (F0 m 41 ls []) := by
    intro Ba x5 hf H locs hP hS ls hl
    unfold fX0_countAll_J41 at hf
    refine lv_iload hx hb dX0_countAll_41 (lv_at hl 0 rfl) ?_
    cases hf
    exact W.iret hx hb hr (fun t ht hW => ⟨⟨rfl, by rw [ht]; exact hP⟩, hS.F ht⟩) hS.2.2 dX0_countAll_43
  have K12 : ∀ (n12 : Nat) (Ba : (Nat → Int32)) (x4 : Int32) (x5 : Int32), fX0_countAll_H12 N Tn Ta n12 Ba x4 x5 = some (r0, Ba9) → ∀ (H : Heap) (locs : List Loc), va_P D vwCl (w_1_2_5_6 q cI cJ cD Tn Ta Ba) H → va_S (gA q [1, 2, 5, 6]) s.heap H locs → ∀ ls : Array Slot, lv_has ls 6 [(0, .ref (q 5)), (4, .int x4), (5, .int x5)] → W p l e (headSpec wsX0_countAll rX0_countAll).room s m ([.ref (q 5), .ref (q 1), .int p2, .int p3] : List Value).toArray below meth c H locs 0 0 (MQ below (gQ D (some (.int r0)) (w_1_2_5_6 q cI cJ cD Tn Ta Ba9) (gA q [1, 2, 5, 6])) ([.ref (q 5), .ref (q 1), .int p2, .int p3] : List Value).toArray s 0 0 (gA q [1, 2, 5, 6])) (F0 m 12 ls []) := by
    intro n12
    induction n12 with
    | zero =>
      intro Ba x4 x5 hf
      exact nomatch (show (none : Option (Int32 × (Nat → Int32))) = some (r0, Ba9) from hf)
    | succ n12 ih12 =>
      intro Ba x4 x5 hf H locs hP hS ls hl
      have hf : fX0_countAll_B12 N Tn Ta (fX0_countAll_H12 N Tn Ta n12) Ba x4 x5 = some (r0, Ba9) := hf
      unfold fX0_countAll_B12 at hf
      refine lv_iload hx hb dX0_countAll_12 (lv_at hl 1 rfl) ?_
      refine lv_if_le (tgt := 41) hx hb dX0_countAll_14 (by decide) (fun c_1 => ?_) (fun c_1 => ?_)
      · have hf := (if_pos c_1).symm.trans hf
        exact J41 Ba x5 hf _ _ hP hS _ (lv_sub hl [2] rfl)
      · have hf := (if_neg c_1).symm.trans hf
        refine lv_iload hx hb dX0_countAll_17 (lv_at hl 2 rfl) ?_
        refine lv_bipush (v := (64 : Int32)) hx hb dX0_countAll_19 (by decide) ?_
        refine lv_icmp_ge (tgt := 41) hx hb dX0_countAll_21 (by decide) (fun c_2 => ?_) (fun c_2 => ?_)
        · have hf := (if_pos c_2).symm.trans hf
          exact J41 Ba x5 hf _ _ hP hS _ (lv_sub hl [2] rfl)
        · have hf := (if_neg c_2).symm.trans hf
          refine lv_aload_n hx hb dX0_countAll_24 rfl (lv_at hl 0 rfl) ?_
          refine va_get (D := D) (ci := 0) (v := .ref (q 6)) (C := RX0) (T := TX0) (N := 1) hx hb hts huX0 hown hE.1 hP 2 rfl rfl 0 (by decide) hk9 (fun _ h9 => h9) rfl dX0_countAll_25 ?_
          refine lv_iload hx hb dX0_countAll_28 (lv_at hl 1 rfl) ?_
          obtain ⟨r30, hc, hf⟩ := bn_some hf
          try dsimp only at hf
          refine g_call0 (ws' := (w_1_2_5_6 q cI cJ cD Tn Ta Ba)) (st1 := [.int r30]) hq [1, 2, 5, 6] [6] [.inr 0, .inr 1, .inr 2, .inl 0] (va_runSN (As := [.ref (q 6), .int x4]) (rest := []) ⟨hx, hb, hml, hown, hts⟩ (kX8_at l D cI cJ cD q hq 6 (by decide) N 65 Ba x4 r30 hc) ⟨va_cnB (host := RX8) 2 hts gX0_countAll_X8_at_n23 rfl rfl rfl (hE.2 (.methodLinkNest RX0 23 yX8_at RX8) (by decide +kernel)) (hts (.initialized RX8) (by decide +kernel)) (by decide +kernel) ⟨(Nat.le_of_ble_eq_true rfl), (Nat.le_of_ble_eq_true rfl)⟩, hts (.static yX8_at) (by decide +kernel), trivial⟩ ⟨gP_blind, fun U hU hW => ⟨rfl, by rw [hU]; exact hP.sub (ws' := (w_G q cI 6 65 Ba)) [3] rfl, gEv.warm hW hE⟩⟩ rfl rfl hl.1 rfl (lv_room (Nat.le_of_ble_eq_true rfl)) dX0_countAll_30 ⟨Nat.zero_le _, Nat.zero_le _⟩) hP hS (gSub rfl) rfl rfl rfl rfl rfl (fun H locs hP hS => ?_)
          refine lv_istore (lv' := [(4, .int r30), (0, .ref (q 5)), (5, .int x5)]) hx hb dX0_countAll_33 hl (by decide) rfl (fun ls hl => ?_)
          refine lv_iinc (v := (x5 + 1)) (lv' := [(5, .int (x5 + 1)), (4, .int r30), (0, .ref (q 5))]) hx hb dX0_countAll_35 hl (k := 2) rfl rfl (by decide) rfl (fun ls hl => ?_)
          refine lv_goto (tgt := 12) hx hb dX0_countAll_38 (by decide) ?_
          exact ih12 Ba r30 (x5 + 1) hf _ _ hP hS _ (lv_sub hl [2, 1, 0] rfl)
  unfold fX0_countAll at hf
  refine lv_aload_n hx hb dX0_countAll_0 rfl (lv_at hl 0 rfl) ?_
  refine lv_aload_n hx hb dX0_countAll_1 rfl (lv_at hl 1 rfl) ?_
  refine lv_iload_n hx hb dX0_countAll_2 rfl (lv_at hl 2 rfl) ?_
  refine lv_iload_n hx hb dX0_countAll_3 rfl (lv_at hl 3 rfl) ?_
  obtain ⟨⟨r4, Ba4⟩, hc, hf⟩ := bn_some hf
  try dsimp only at hf
  refine g_call0 (ws' := (w_1_2_5_6 q cI cJ cD Tn Ta Ba4)) (st1 := [.int r4]) hq [1, 2, 5, 6] [1, 2, 5, 6] [.inl 0, .inl 1, .inl 2, .inl 3] (va_runV (As := [.ref (q 1), .int p2, .int p3]) (rest := []) ⟨hx, hb, hml, hown, hts⟩ (kX0_longest l D cI cJ cD q hq N Tn Ta Ba p2 p3 r4 Ba4 hc) (cwV 3 hts gX0_countAll_X0_longest rfl rfl rfl (by decide +kernel) ⟨(Nat.le_of_ble_eq_true rfl), (Nat.le_of_ble_eq_true rfl)⟩) ⟨gP_blind, va_recv hE.1 hP (ci := 0) (q0 := 2) rfl rfl, fun U hU hW => ⟨rfl, by rw [hU]; exact hP.sub (ws' := (w_1_2_5_6 q cI cJ cD Tn Ta Ba)) [0, 1, 2, 3] rfl, gEv.warm hW hE⟩⟩ rfl rfl hl.1 rfl (lv_room (Nat.le_of_ble_eq_true rfl)) dX0_countAll_4 ⟨Nat.zero_le _, Nat.zero_le _⟩) hP hS (gSub rfl) rfl rfl rfl rfl rfl (fun H locs hP hS => ?_)
  refine lv_istore (lv' := [(4, .int r4), (0, .ref (q 5)), (1, .ref (q 1)), (2, .int p2), (3, .int p3)]) hx hb dX0_countAll_7 hl (by decide) rfl (fun ls hl => ?_)
  refine lv_iconst (v := (1 : Int32)) hx hb dX0_countAll_9 (by decide) ?_
  refine lv_istore (lv' := [(5, .int (1 : Int32)), (4, .int r4), (0, .ref (q 5)), (1, .ref (q 1)), (2, .int p2), (3, .int p3)]) hx hb dX0_countAll_10 hl (by decide) rfl (fun ls hl => ?_)
  exact K12 N Ba4 r4 (1 : Int32) hf _ _ hP hS _ (lv_sub hl [2, 1, 0] rfl)
set_option maxHeartbeats 4000000 in
set_option maxRecDepth 100000 in
theorem kX6_findOne (l : Launch) (D : va_G) (cI cJ cD : ClassId) (q : Nat → Nat) (hq : gInj 14 q) (N : Nat) (Tn : Int32) (Ta : (Nat → Int32)) (Rn : Int32) (Ra : (Nat → Int32)) (Rb : (Nat → Int32)) (Rd : (Nat → Int32)) (p2 : Int32) (p3 : Int32) (Rn9 : Int32) (Ra9 : (Nat → Int32)) (Rb9 : (Nat → Int32)) (Rd9 : (Nat → Int32)) (hf : fX6_findOne N Tn Ta Rn Ra Rb Rd p2 p3 = some (Rn9, Ra9, Rb9, Rd9)) : Met l yX6_findOne wsX6_findOne rX6_findOne (gP D cI cJ cD [.ref (q 7), .ref (q 1), .int p2, .int p3] (w_1_2_7_8_9_10 q cI cJ cD Tn Ta Rn Ra Rb Rd)) (gQ D none (w_1_2_7_8_9_10 q cI cJ cD Tn Ta Rn9 Ra9 Rb9 Rd9) (gA q [1, 2, 7, 8, 9, 10])) 0 0 (gA q [1, 2, 7, 8, 9, 10]) := by
  refine Met.ofW (cc := cX6_findOne) (maxL := 5) (ret := none) (by decide +kernel) rfl ?_
  intro p e s m args below meth c s₁ B hml hv
  obtain ⟨rfl, hP, hE⟩ := hv
  have hx := B.exec
  have hb := B.bytes
  have hr := B.returns
  have hts := atoms_spec (ws := wsX6_findOne) B.pre
  have hown : s.vm.findClass RX6 = some m.cls := findClass_of_methodNamed B.named
  have hlocks := B.notSynchronized
  have hS : va_S (gA q [1, 2, 7, 8, 9, 10]) s.heap s.heap [] := va_S.rf
  have hl := lv_entry ([.ref (q 7), .ref (q 1), .int p2, .int p3]) (n := 5) (Nat.le_of_ble_eq_true rfl)
  rw [lg_entry_eq]
  generalize (lg_sl ([.ref (q 7), .ref (q 1), .int p2, .int p3]) ++ List.replicate (5 - (lg_sl ([.ref (q 7), .ref (q 1), .int p2, .int p3])).length) Slot.unset).toArray = ls at hl ⊢
  have hl : lv_has ls 5 [(0, .ref (q 7)), (1, .ref (q 1)), (2, .int p2), (3, .int p3)] := hl
  have hDm : ∀ (z0 : Int32) (z1 : (Nat → Int32)) (z2 : Int32) (z3 : (Nat → Int32)) (z4 : (Nat → Int32)) (z5 : (Nat → Int32)), va_D (gA q [1, 2, 7, 8, 9, 10]) (w_1_2_7_8_9_10 q cI cJ cD z0 z1 z2 z3 z4 z5) := fun _ _ _ _ _ _ => gD_of hq [1, 2, 7, 8, 9, 10] rfl rfl rfl (fun k h => ⟨k, h, rfl⟩)
  have hk21 := hts (.fieldLink RX6 21 "LyndonText$Runs" "count" "I") (by decide +kernel)
  have hk9 := hts (.fieldLink RX6 9 "LyndonText$Runs" "starts" "[I") (by decide +kernel)
  have hk15 := hts (.fieldLink RX6 15 "LyndonText$Runs" "ends" "[I") (by decide +kernel)
  have hk18 := hts (.fieldLink RX6 18 "LyndonText$Runs" "distances" "[I") (by decide +kernel)
  have huX6 : ∀ w ∈ u_ws RX6 TX6 4, w ∈ wsX6_findOne := by decide +kernel
  have J115 : ∀ (Rn : Int32) (Ra : (Nat → Int32)) (Rb : (Nat → Int32)) (Rd : (Nat → Int32)), fX6_findOne_J115 N Tn Ta Rn Ra Rb Rd = some (Rn9, Ra9, Rb9, Rd9) → ∀ (H : Heap) (locs : List Loc), va_P D vwCl (w_1_2_7_8_9_10 q cI cJ cD Tn Ta Rn Ra Rb Rd) H → va_S (gA q [1, 2, 7, 8, 9, 10]) s.heap H locs → ∀ ls : Array Slot, lv_has ls 5 [] → W p l e (headSpec wsX6_findOne rX6_findOne).room s m ([.ref (q 7), .ref (q 1), .int p2, .int p3] : List Value).toArray below meth c H locs 0 0 (MQ below (gQ D none (w_1_2_7_8_9_10 q cI cJ cD Tn Ta Rn9 Ra9 Rb9 Rd9) (gA q [1, 2, 7, 8, 9, 10])) ([.ref (q 7), .ref (q 1), .int p2, .int p3] : List Value).toArray s 0 0 (gA q [1, 2, 7, 8, 9, 10])) (F0 m 115 ls []) := by
    intro Rn Ra Rb Rd hf H locs hP hS ls hl
    unfold fX6_findOne_J115 at hf
    cases hf
    exact W.vret hx hb hr (fun t ht hW => ⟨⟨rfl, by rw [ht]; exact hP⟩, hS.F ht⟩) hS.2.2 dX6_findOne_115
  have J24 : ∀ (Rn : Int32) (Ra : (Nat → Int32)) (Rb : (Nat → Int32)) (Rd : (Nat → Int32)) (x2 : Int32) (x3 : Int32), fX6_findOne_J24 N Tn Ta Rn Ra Rb Rd x2 x3 = some (Rn9, Ra9, Rb9, Rd9) → ∀ (H : Heap) (locs : List Loc), va_P D vwCl (w_1_2_7_8_9_10 q cI cJ cD Tn Ta Rn Ra Rb Rd) H → va_S (gA q [1, 2, 7, 8, 9, 10]) s.heap H locs → ∀ ls : Array Slot, lv_has ls 5 [(0, .ref (q 7)), (1, .ref (q 1)), (2, .int x2), (3, .int x3)] → W p l e (headSpec wsX6_findOne rX6_findOne).room s m ([.ref (q 7), .ref (q 1), .int p2, .int p3] : List Value).toArray below meth c H locs 0 0 (MQ below (gQ D none (w_1_2_7_8_9_10 q cI cJ cD Tn Ta Rn9 Ra9 Rb9 Rd9) (gA q [1, 2, 7, 8, 9, 10])) ([.ref (q 7), .ref (q 1), .int p2, .int p3] : List Value).toArray s 0 0 (gA q [1, 2, 7, 8, 9, 10])) (F0 m 24 ls []) := by
    intro Rn Ra Rb Rd x2 x3 hf H locs hP hS ls hl
    unfold fX6_findOne_J24 at hf
    refine lv_iload_n hx hb dX6_findOne_24 rfl (lv_at hl 2 rfl) ?_
    refine lv_iload_n hx hb dX6_findOne_25 rfl (lv_at hl 3 rfl) ?_
    refine lv_iadd hx hb dX6_findOne_26 ?_
    refine lv_aload_n hx hb dX6_findOne_27 rfl (lv_at hl 1 rfl) ?_
    refine lv_iload_n hx hb dX6_findOne_28 rfl (lv_at hl 2 rfl) ?_
    refine lv_iload_n hx hb dX6_findOne_29 rfl (lv_at hl 2 rfl) ?_
    refine lv_iload_n hx hb dX6_findOne_30 rfl (lv_at hl 3 rfl) ?_
    refine lv_iadd hx hb dX6_findOne_31 ?_
    obtain ⟨r32, hc, hf⟩ := bn_some hf
    try dsimp only at hf
    refine g_call0 (ws' := (w_1_2_7_8_9_10 q cI cJ cD Tn Ta Rn Ra Rb Rd)) (st1 := [.int r32, .int (x2 + x3)]) hq [1, 2, 7, 8, 9, 10] [1, 2] [.inl 0, .inl 1, .inr 2, .inr 3, .inr 4, .inr 5] (va_runV (As := [.int x2, .int (x2 + x3)]) (rest := [.int (x2 + x3)]) ⟨hx, hb, hml, hown, hts⟩ (kX2_countSame l D cI cJ cD q hq N Tn Ta x2 (x2 + x3) r32 hc) (cwV 2 hts gX6_findOne_X2_countSame rfl rfl rfl (by decide +kernel) ⟨(Nat.le_of_ble_eq_true rfl), (Nat.le_of_ble_eq_true rfl)⟩) ⟨gP_blind, va_recv hE.1 hP (ci := 2) (q0 := 0) rfl rfl, fun U hU hW => ⟨rfl, by rw [hU]; exact hP.sub (ws' := (w_1_2 q cI cJ cD Tn Ta)) [0, 1] rfl, gEv.warm hW hE⟩⟩ rfl rfl hl.1 rfl (lv_room (Nat.le_of_ble_eq_true rfl)) dX6_findOne_32 ⟨Nat.zero_le _, Nat.zero_le _⟩) hP hS (gSub rfl) rfl rfl rfl rfl rfl (fun H locs hP hS => ?_)
    refine lv_iadd hx hb dX6_findOne_35 ?_
    refine lv_istore (lv' := [(4, .int ((x2 + x3) + r32)), (0, .ref (q 7)), (1, .ref (q 1)), (2, .int x2), (3, .int x3)]) hx hb dX6_findOne_36 hl (by decide) rfl (fun ls hl => ?_)
    refine lv_iload hx hb dX6_findOne_38 (lv_at hl 0 rfl) ?_
    refine lv_iload_n hx hb dX6_findOne_40 rfl (lv_at hl 3 rfl) ?_
    refine lv_isub hx hb dX6_findOne_41 ?_
    refine lv_iconst (v := (2 : Int32)) hx hb dX6_findOne_42 (by decide) ?_
    refine lv_iload_n hx hb dX6_findOne_43 rfl (lv_at hl 4 rfl) ?_
    refine lv_imul hx hb dX6_findOne_44 ?_
    refine lv_icmp_lt (tgt := 115) hx hb dX6_findOne_45 (by decide) (fun c_1 => ?_) (fun c_1 => ?_)
    · have hf := (if_pos c_1).symm.trans hf
      exact J115 Rn Ra Rb Rd hf _ _ hP hS _ (lv_sub hl [] rfl)
    · have hf := (if_neg c_1).symm.trans hf
      refine lv_aload_n hx hb dX6_findOne_48 rfl (lv_at hl 2 rfl) ?_
      refine lv_iload_n hx hb dX6_findOne_49 rfl (lv_at hl 3 rfl) ?_
      refine lv_iload hx hb dX6_findOne_50 (lv_at hl 0 rfl) ?_
      obtain ⟨r52, hc, hf⟩ := bn_some hf
      try dsimp only at hf
      refine g_call0 (ws' := (w_1_2_7_8_9_10 q cI cJ cD Tn Ta Rn Ra Rb Rd)) (st1 := [.int r52]) hq [1, 2, 7, 8, 9, 10] [1, 2] [.inl 0, .inl 1, .inr 2, .inr 3, .inr 4, .inr 5] (va_runV (As := [.int x2, .int ((x2 + x3) + r32)]) (rest := []) ⟨hx, hb, hml, hown, hts⟩ (kX2_firstPeriod l D cI cJ cD q hq N Tn Ta x2 ((x2 + x3) + r32) r52 hc) (cwV 2 hts gX6_findOne_X2_firstPeriod rfl rfl rfl (by decide +kernel) ⟨(Nat.le_of_ble_eq_true rfl), (Nat.le_of_ble_eq_true rfl)⟩) ⟨gP_blind, va_recv hE.1 hP (ci := 2) (q0 := 0) rfl rfl, fun U hU hW => ⟨rfl, by rw [hU]; exact hP.sub (ws' := (w_1_2 q cI cJ cD Tn Ta)) [0, 1] rfl, gEv.warm hW hE⟩⟩ rfl rfl hl.1 rfl (lv_room (Nat.le_of_ble_eq_true rfl)) dX6_findOne_52 ⟨Nat.zero_le _, Nat.zero_le _⟩) hP hS (gSub rfl) rfl rfl rfl rfl rfl (fun H locs hP hS => ?_)
      refine lv_iload_n hx hb dX6_findOne_55 rfl (lv_at hl 4 rfl) ?_
      refine lv_icmp_ne (tgt := 115) hx hb dX6_findOne_56 (by decide) (fun c_2 => ?_) (fun c_2 => ?_)
      · have hf := (if_neg c_2).symm.trans hf
        exact J115 Rn Ra Rb Rd hf _ _ hP hS _ (lv_sub hl [] rfl)
      · have hf := (if_pos c_2).symm.trans hf
        refine lv_aload_n hx hb dX6_findOne_59 rfl (lv_at hl 1 rfl) ?_
        refine va_get (D := D) (ci := 4) (v := .int Rn) (C := RX6) (T := TX6) (N := 4) hx hb hts huX6 hown hE.1 hP 2 rfl rfl 3 (by decide) hk21 (fun _ h9 => h9) rfl dX6_findOne_60 ?_
        refine lv_bipush (v := (64 : Int32)) hx hb dX6_findOne_63 (by decide) ?_
        refine lv_icmp_ge (tgt := 115) hx hb dX6_findOne_65 (by decide) (fun c_3 => ?_) (fun c_3 => ?_)
        · have hf := (if_pos c_3).symm.trans hf
          exact J115 Rn Ra Rb Rd hf _ _ hP hS _ (lv_sub hl [] rfl)
        · have hf := (if_neg c_3).symm.trans hf
          refine lv_aload_n hx hb dX6_findOne_68 rfl (lv_at hl 1 rfl) ?_
          refine va_get (D := D) (ci := 4) (v := .ref (q 8)) (C := RX6) (T := TX6) (N := 4) hx hb hts huX6 hown hE.1 hP 2 rfl rfl 0 (by decide) hk9 (fun _ h9 => h9) rfl dX6_findOne_69 ?_
          refine lv_aload_n hx hb dX6_findOne_72 rfl (lv_at hl 1 rfl) ?_
          refine va_get (D := D) (ci := 4) (v := .int Rn) (C := RX6) (T := TX6) (N := 4) hx hb hts huX6 hown hE.1 hP 2 rfl rfl 3 (by decide) hk21 (fun _ h9 => h9) rfl dX6_findOne_73 ?_
          refine lv_iload_n hx hb dX6_findOne_76 rfl (lv_at hl 3 rfl) ?_
          obtain ⟨g77, hc, hf⟩ := bn_some hf
          try dsimp only at hf
          refine g_call0 (ws' := (w_1_2_7_8_9_10 q cI cJ cD Tn Ta Rn g77 Rb Rd)) (st1 := []) hq [1, 2, 7, 8, 9, 10] [8] [.inr 0, .inr 1, .inr 2, .inl 0, .inr 4, .inr 5] (va_runSN (As := [.ref (q 8), .int Rn, .int x2]) (rest := []) ⟨hx, hb, hml, hown, hts⟩ (kX8_put l D cI cJ cD q hq 8 (by decide) N 64 Ra Rn x2 g77 hc) ⟨va_cnB (host := RX8) 3 hts gX6_findOne_X8_put_n49 rfl rfl rfl (hE.2 (.methodLinkNest RX6 49 yX8_put RX8) (by decide +kernel)) (hts (.initialized RX8) (by decide +kernel)) (by decide +kernel) ⟨(Nat.le_of_ble_eq_true rfl), (Nat.le_of_ble_eq_true rfl)⟩, hts (.static yX8_put) (by decide +kernel), trivial⟩ ⟨gP_blind, fun U hU hW => ⟨rfl, by rw [hU]; exact hP.sub (ws' := (w_G q cI 8 64 Ra)) [3] rfl, gEv.warm hW hE⟩⟩ rfl rfl hl.1 rfl (lv_room (Nat.le_of_ble_eq_true rfl)) dX6_findOne_77 ⟨Nat.zero_le _, Nat.zero_le _⟩) hP hS (gSub rfl) rfl rfl rfl rfl rfl (fun H locs hP hS => ?_)
          refine lv_aload_n hx hb dX6_findOne_80 rfl (lv_at hl 1 rfl) ?_
          refine va_get (D := D) (ci := 4) (v := .ref (q 9)) (C := RX6) (T := TX6) (N := 4) hx hb hts huX6 hown hE.1 hP 2 rfl rfl 1 (by decide) hk15 (fun _ h9 => h9) rfl dX6_findOne_81 ?_
          refine lv_aload_n hx hb dX6_findOne_84 rfl (lv_at hl 1 rfl) ?_
          refine va_get (D := D) (ci := 4) (v := .int Rn) (C := RX6) (T := TX6) (N := 4) hx hb hts huX6 hown hE.1 hP 2 rfl rfl 3 (by decide) hk21 (fun _ h9 => h9) rfl dX6_findOne_85 ?_
          refine lv_iload hx hb dX6_findOne_88 (lv_at hl 0 rfl) ?_
          obtain ⟨g90, hc, hf⟩ := bn_some hf
          try dsimp only at hf
          refine g_call0 (ws' := (w_1_2_7_8_9_10 q cI cJ cD Tn Ta Rn g77 g90 Rd)) (st1 := []) hq [1, 2, 7, 8, 9, 10] [9] [.inr 0, .inr 1, .inr 2, .inr 3, .inl 0, .inr 5] (va_runSN (As := [.ref (q 9), .int Rn, .int ((x2 + x3) + r32)]) (rest := []) ⟨hx, hb, hml, hown, hts⟩ (kX8_put l D cI cJ cD q hq 9 (by decide) N 64 Rb Rn ((x2 + x3) + r32) g90 hc) ⟨va_cnB (host := RX8) 3 hts gX6_findOne_X8_put_n49 rfl rfl rfl (hE.2 (.methodLinkNest RX6 49 yX8_put RX8) (by decide +kernel)) (hts (.initialized RX8) (by decide +kernel)) (by decide +kernel) ⟨(Nat.le_of_ble_eq_true rfl), (Nat.le_of_ble_eq_true rfl)⟩, hts (.static yX8_put) (by decide +kernel), trivial⟩ ⟨gP_blind, fun U hU hW => ⟨rfl, by rw [hU]; exact hP.sub (ws' := (w_G q cI 9 64 Rb)) [4] rfl, gEv.warm hW hE⟩⟩ rfl rfl hl.1 rfl (lv_room (Nat.le_of_ble_eq_true rfl)) dX6_findOne_90 ⟨Nat.zero_le _, Nat.zero_le _⟩) hP hS (gSub rfl) rfl rfl rfl rfl rfl (fun H locs hP hS => ?_)
          refine lv_aload_n hx hb dX6_findOne_93 rfl (lv_at hl 1 rfl) ?_
          refine va_get (D := D) (ci := 4) (v := .ref (q 10)) (C := RX6) (T := TX6) (N := 4) hx hb hts huX6 hown hE.1 hP 2 rfl rfl 2 (by decide) hk18 (fun _ h9 => h9) rfl dX6_findOne_94 ?_
          refine lv_aload_n hx hb dX6_findOne_97 rfl (lv_at hl 1 rfl) ?_
          refine va_get (D := D) (ci := 4) (v := .int Rn) (C := RX6) (T := TX6) (N := 4) hx hb hts huX6 hown hE.1 hP 2 rfl rfl 3 (by decide) hk21 (fun _ h9 => h9) rfl dX6_findOne_98 ?_
          refine lv_iload_n hx hb dX6_findOne_101 rfl (lv_at hl 4 rfl) ?_
          obtain ⟨g102, hc, hf⟩ := bn_some hf
          try dsimp only at hf
          refine g_call0 (ws' := (w_1_2_7_8_9_10 q cI cJ cD Tn Ta Rn g77 g90 g102)) (st1 := []) hq [1, 2, 7, 8, 9, 10] [10] [.inr 0, .inr 1, .inr 2, .inr 3, .inr 4, .inl 0] (va_runSN (As := [.ref (q 10), .int Rn, .int x3]) (rest := []) ⟨hx, hb, hml, hown, hts⟩ (kX8_put l D cI cJ cD q hq 10 (by decide) N 64 Rd Rn x3 g102 hc) ⟨va_cnB (host := RX8) 3 hts gX6_findOne_X8_put_n49 rfl rfl rfl (hE.2 (.methodLinkNest RX6 49 yX8_put RX8) (by decide +kernel)) (hts (.initialized RX8) (by decide +kernel)) (by decide +kernel) ⟨(Nat.le_of_ble_eq_true rfl), (Nat.le_of_ble_eq_true rfl)⟩, hts (.static yX8_put) (by decide +kernel), trivial⟩ ⟨gP_blind, fun U hU hW => ⟨rfl, by rw [hU]; exact hP.sub (ws' := (w_G q cI 10 64 Rd)) [5] rfl, gEv.warm hW hE⟩⟩ rfl rfl hl.1 rfl (lv_room (Nat.le_of_ble_eq_true rfl)) dX6_findOne_102 ⟨Nat.zero_le _, Nat.zero_le _⟩) hP hS (gSub rfl) rfl rfl rfl rfl rfl (fun H locs hP hS => ?_)
          refine lv_aload_n hx hb dX6_findOne_105 rfl (lv_at hl 1 rfl) ?_
          refine lv_dup hx hb dX6_findOne_106 rfl ?_
          refine va_get (D := D) (ci := 4) (v := .int Rn) (C := RX6) (T := TX6) (N := 4) hx hb hts huX6 hown hE.1 hP 2 rfl rfl 3 (by decide) hk21 (fun _ h9 => h9) rfl dX6_findOne_107 ?_
          refine lv_iconst (v := (1 : Int32)) hx hb dX6_findOne_110 (by decide) ?_
          refine lv_iadd hx hb dX6_findOne_111 ?_
          refine va_put (D := D) (ci := 4) (v := .int (Rn + (1 : Int32))) (ty := .int) (C := RX6) (T := TX6) (N := 4) hx hb hts huX6 tyX6 tyX6_ok nmX6 hown hE.1 hP (hDm Tn Ta Rn g77 g90 g102) hS 2 rfl rfl 3 (by decide) hk21 (fun _ h9 => h9) rfl (by decide +kernel) rfl rfl (Nat.le_of_ble_eq_true rfl) dX6_findOne_112 (fun H locs hP _ hS => ?_)
          have hP : va_P D vwCl (w_1_2_7_8_9_10 q cI cJ cD Tn Ta (Rn + (1 : Int32)) g77 g90 g102) H := hP
          exact J115 (Rn + (1 : Int32)) g77 g90 g102 hf _ _ hP hS _ (lv_sub hl [] rfl)
  unfold fX6_findOne at hf
  refine lv_iload_n hx hb dX6_findOne_0 rfl (lv_at hl 2 rfl) ?_
  refine lv_if_le (tgt := 24) hx hb dX6_findOne_1 (by decide) (fun c_4 => ?_) (fun c_4 => ?_)
  · have hf := (if_pos c_4).symm.trans hf
    exact J24 Rn Ra Rb Rd p2 p3 hf _ _ hP hS _ (lv_sub hl [0, 1, 2, 3] rfl)
  · have hf := (if_neg c_4).symm.trans hf
    refine lv_aload_n hx hb dX6_findOne_4 rfl (lv_at hl 1 rfl) ?_
    refine lv_iload_n hx hb dX6_findOne_5 rfl (lv_at hl 2 rfl) ?_
    refine lv_iconst (v := (1 : Int32)) hx hb dX6_findOne_6 (by decide) ?_
    refine lv_isub hx hb dX6_findOne_7 ?_
    obtain ⟨r8, hc, hf⟩ := bn_some hf
    try dsimp only at hf
    refine g_call0 (ws' := (w_1_2_7_8_9_10 q cI cJ cD Tn Ta Rn Ra Rb Rd)) (st1 := [.int r8]) hq [1, 2, 7, 8, 9, 10] [1, 2] [.inl 0, .inl 1, .inr 2, .inr 3, .inr 4, .inr 5] (va_runV (As := [.int (p2 - (1 : Int32))]) (rest := []) ⟨hx, hb, hml, hown, hts⟩ (kX2_letter l D cI cJ cD q hq N Tn Ta (p2 - (1 : Int32)) r8 hc) (cwV 1 hts gX6_findOne_X2_letter rfl rfl rfl (by decide +kernel) ⟨(Nat.le_of_ble_eq_true rfl), (Nat.le_of_ble_eq_true rfl)⟩) ⟨gP_blind, va_recv hE.1 hP (ci := 2) (q0 := 0) rfl rfl, fun U hU hW => ⟨rfl, by rw [hU]; exact hP.sub (ws' := (w_1_2 q cI cJ cD Tn Ta)) [0, 1] rfl, gEv.warm hW hE⟩⟩ rfl rfl hl.1 rfl (lv_room (Nat.le_of_ble_eq_true rfl)) dX6_findOne_8 ⟨Nat.zero_le _, Nat.zero_le _⟩) hP hS (gSub rfl) rfl rfl rfl rfl rfl (fun H locs hP hS => ?_)
    refine lv_aload_n hx hb dX6_findOne_11 rfl (lv_at hl 1 rfl) ?_
    refine lv_iload_n hx hb dX6_findOne_12 rfl (lv_at hl 2 rfl) ?_
    refine lv_iconst (v := (1 : Int32)) hx hb dX6_findOne_13 (by decide) ?_
    refine lv_isub hx hb dX6_findOne_14 ?_
    refine lv_iload_n hx hb dX6_findOne_15 rfl (lv_at hl 3 rfl) ?_
    refine lv_iadd hx hb dX6_findOne_16 ?_
    obtain ⟨r17, hc, hf⟩ := bn_some hf
    try dsimp only at hf
    refine g_call0 (ws' := (w_1_2_7_8_9_10 q cI cJ cD Tn Ta Rn Ra Rb Rd)) (st1 := [.int r17, .int r8]) hq [1, 2, 7, 8, 9, 10] [1, 2] [.inl 0, .inl 1, .inr 2, .inr 3, .inr 4, .inr 5] (va_runV (As := [.int ((p2 - (1 : Int32)) + p3)]) (rest := [.int r8]) ⟨hx, hb, hml, hown, hts⟩ (kX2_letter l D cI cJ cD q hq N Tn Ta ((p2 - (1 : Int32)) + p3) r17 hc) (cwV 1 hts gX6_findOne_X2_letter rfl rfl rfl (by decide +kernel) ⟨(Nat.le_of_ble_eq_true rfl), (Nat.le_of_ble_eq_true rfl)⟩) ⟨gP_blind, va_recv hE.1 hP (ci := 2) (q0 := 0) rfl rfl, fun U hU hW => ⟨rfl, by rw [hU]; exact hP.sub (ws' := (w_1_2 q cI cJ cD Tn Ta)) [0, 1] rfl, gEv.warm hW hE⟩⟩ rfl rfl hl.1 rfl (lv_room (Nat.le_of_ble_eq_true rfl)) dX6_findOne_17 ⟨Nat.zero_le _, Nat.zero_le _⟩) hP hS (gSub rfl) rfl rfl rfl rfl rfl (fun H locs hP hS => ?_)
    refine lv_icmp_ne (tgt := 24) hx hb dX6_findOne_20 (by decide) (fun c_5 => ?_) (fun c_5 => ?_)
    · have hf := (if_neg c_5).symm.trans hf
      exact J24 Rn Ra Rb Rd p2 p3 hf _ _ hP hS _ (lv_sub hl [0, 1, 2, 3] rfl)
    · have hf := (if_pos c_5).symm.trans hf
      cases hf
      exact W.vret hx hb hr (fun t ht hW => ⟨⟨rfl, by rw [ht]; exact hP⟩, hS.F ht⟩) hS.2.2 dX6_findOne_23
set_option maxHeartbeats 4000000 in
set_option maxRecDepth 100000 in
theorem kX6_find (l : Launch) (D : va_G) (cI cJ cD : ClassId) (q : Nat → Nat) (hq : gInj 14 q) (N : Nat) (Tn : Int32) (Ta : (Nat → Int32)) (Rn : Int32) (Ra : (Nat → Int32)) (Rb : (Nat → Int32)) (Rd : (Nat → Int32)) (Rn9 : Int32) (Ra9 : (Nat → Int32)) (Rb9 : (Nat → Int32)) (Rd9 : (Nat → Int32)) (hf : fX6_find N Tn Ta Rn Ra Rb Rd = some (Rn9, Ra9, Rb9, Rd9)) : Met l yX6_find wsX6_find rX6_find (gP D cI cJ cD [.ref (q 7), .ref (q 1)] (w_1_2_7_8_9_10 q cI cJ cD Tn Ta Rn Ra Rb Rd)) (gQ D none (w_1_2_7_8_9_10 q cI cJ cD Tn Ta Rn9 Ra9 Rb9 Rd9) (gA q [1, 2, 7, 8, 9, 10])) 0 0 (gA q [1, 2, 7, 8, 9, 10]) := by
  refine Met.ofW (cc := cX6_find) (maxL := 4) (ret := none) (by decide +kernel) rfl ?_
  intro p e s m args below meth c s₁ B hml hv
  obtain ⟨rfl, hP, hE⟩ := hv
  have hx := B.exec
  have hb := B.bytes
  have hr := B.returns
  have hts := atoms_spec (ws := wsX6_find) B.pre
  have hown : s.vm.findClass RX6 = some m.cls := findClass_of_methodNamed B.named
  have hlocks := B.notSynchronized
  have hS : va_S (gA q [1, 2, 7, 8, 9, 10]) s.heap s.heap [] := va_S.rf
  have hl := lv_entry ([.ref (q 7), .ref (q 1)]) (n := 4) (Nat.le_of_ble_eq_true rfl)
  rw [lg_entry_eq]
  generalize (lg_sl ([.ref (q 7), .ref (q 1)]) ++ List.replicate (4 - (lg_sl ([.ref (q 7), .ref (q 1)])).length) Slot.unset).toArray = ls at hl ⊢
  have hl : lv_has ls 4 [(0, .ref (q 7)), (1, .ref (q 1))] := hl
  have hDm : ∀ (z0 : Int32) (z1 : (Nat → Int32)) (z2 : Int32) (z3 : (Nat → Int32)) (z4 : (Nat → Int32)) (z5 : (Nat → Int32)), va_D (gA q [1, 2, 7, 8, 9, 10]) (w_1_2_7_8_9_10 q cI cJ cD z0 z1 z2 z3 z4 z5) := fun _ _ _ _ _ _ => gD_of hq [1, 2, 7, 8, 9, 10] rfl rfl rfl (fun k h => ⟨k, h, rfl⟩)
  have hk21 := hts (.fieldLink RX6 21 "LyndonText$Runs" "count" "I") (by decide +kernel)
  have huX6 : ∀ w ∈ u_ws RX6 TX6 4, w ∈ wsX6_find := by decide +kernel
  have J48 : ∀ (Rn : Int32) (Ra : (Nat → Int32)) (Rb : (Nat → Int32)) (Rd : (Nat → Int32)), fX6_find_J48 N Tn Ta Rn Ra Rb Rd = some (Rn9, Ra9, Rb9, Rd9) → ∀ (H : Heap) (locs : List Loc), va_P D vwCl (w_1_2_7_8_9_10 q cI cJ cD Tn Ta Rn Ra Rb Rd) H → va_S (gA q [1, 2, 7, 8, 9, 10]) s.heap H locs → ∀ ls : Array Slot, lv_has ls 4 [] → W p l e (headSpec wsX6_find rX6_find).room s m ([.ref (q 7), .ref (q 1)] : List Value).toArray below meth c H locs 0 0 (MQ below (gQ D none (w_1_2_7_8_9_10 q cI cJ cD Tn Ta Rn9 Ra9 Rb9 Rd9) (gA q [1, 2, 7, 8, 9, 10])) ([.ref (q 7), .ref (q 1)] : List Value).toArray s 0 0 (gA q [1, 2, 7, 8, 9, 10])) (F0 m 48 ls []) := by
    intro Rn Ra Rb Rd hf H locs hP hS ls hl
    unfold fX6_find_J48 at hf
    cases hf
    exact W.vret hx hb hr (fun t ht hW => ⟨⟨rfl, by rw [ht]; exact hP⟩, hS.F ht⟩) hS.2.2 dX6_find_48
  have K7 : ∀ (n7 : Nat) (Rn : Int32) (Ra : (Nat → Int32)) (Rb : (Nat → Int32)) (Rd : (Nat → Int32)) (x2 : Int32), fX6_find_H7 N Tn Ta n7 Rn Ra Rb Rd x2 = some (Rn9, Ra9, Rb9, Rd9) → ∀ (H : Heap) (locs : List Loc), va_P D vwCl (w_1_2_7_8_9_10 q cI cJ cD Tn Ta Rn Ra Rb Rd) H → va_S (gA q [1, 2, 7, 8, 9, 10]) s.heap H locs → ∀ ls : Array Slot, lv_has ls 4 [(0, .ref (q 7)), (1, .ref (q 1)), (2, .int x2)] → W p l e (headSpec wsX6_find rX6_find).room s m ([.ref (q 7), .ref (q 1)] : List Value).toArray below meth c H locs 0 0 (MQ below (gQ D none (w_1_2_7_8_9_10 q cI cJ cD Tn Ta Rn9 Ra9 Rb9 Rd9) (gA q [1, 2, 7, 8, 9, 10])) ([.ref (q 7), .ref (q 1)] : List Value).toArray s 0 0 (gA q [1, 2, 7, 8, 9, 10])) (F0 m 7 ls []) := by
    intro n7
    induction n7 with
    | zero =>
      intro Rn Ra Rb Rd x2 hf
      exact nomatch (show (none : Option (Int32 × (Nat → Int32) × (Nat → Int32) × (Nat → Int32))) = some (Rn9, Ra9, Rb9, Rd9) from hf)
    | succ n7 ih7 =>
      have J42 : ∀ (Rn : Int32) (Ra : (Nat → Int32)) (Rb : (Nat → Int32)) (Rd : (Nat → Int32)) (x2 : Int32), fX6_find_J42 N Tn Ta (fX6_find_H7 N Tn Ta n7) Rn Ra Rb Rd x2 = some (Rn9, Ra9, Rb9, Rd9) → ∀ (H : Heap) (locs : List Loc), va_P D vwCl (w_1_2_7_8_9_10 q cI cJ cD Tn Ta Rn Ra Rb Rd) H → va_S (gA q [1, 2, 7, 8, 9, 10]) s.heap H locs → ∀ ls : Array Slot, lv_has ls 4 [(0, .ref (q 7)), (1, .ref (q 1)), (2, .int x2)] → W p l e (headSpec wsX6_find rX6_find).room s m ([.ref (q 7), .ref (q 1)] : List Value).toArray below meth c H locs 0 0 (MQ below (gQ D none (w_1_2_7_8_9_10 q cI cJ cD Tn Ta Rn9 Ra9 Rb9 Rd9) (gA q [1, 2, 7, 8, 9, 10])) ([.ref (q 7), .ref (q 1)] : List Value).toArray s 0 0 (gA q [1, 2, 7, 8, 9, 10])) (F0 m 42 ls []) := by
        intro Rn Ra Rb Rd x2 hf H locs hP hS ls hl
        unfold fX6_find_J42 at hf
        refine lv_iinc (v := (x2 + 1)) (lv' := [(2, .int (x2 + 1)), (0, .ref (q 7)), (1, .ref (q 1))]) hx hb dX6_find_42 hl (k := 2) rfl rfl (by decide) rfl (fun ls hl => ?_)
        refine lv_goto (tgt := 7) hx hb dX6_find_45 (by decide) ?_
        exact ih7 Rn Ra Rb Rd (x2 + 1) hf _ _ hP hS _ (lv_sub hl [1, 2, 0] rfl)
      have K17 : ∀ (n17 : Nat) (Rn : Int32) (Ra : (Nat → Int32)) (Rb : (Nat → Int32)) (Rd : (Nat → Int32)) (x2 : Int32) (x3 : Int32), fX6_find_H17 N Tn Ta (fX6_find_H7 N Tn Ta n7) n17 Rn Ra Rb Rd x2 x3 = some (Rn9, Ra9, Rb9, Rd9) → ∀ (H : Heap) (locs : List Loc), va_P D vwCl (w_1_2_7_8_9_10 q cI cJ cD Tn Ta Rn Ra Rb Rd) H → va_S (gA q [1, 2, 7, 8, 9, 10]) s.heap H locs → ∀ ls : Array Slot, lv_has ls 4 [(0, .ref (q 7)), (1, .ref (q 1)), (2, .int x2), (3, .int x3)] → W p l e (headSpec wsX6_find rX6_find).room s m ([.ref (q 7), .ref (q 1)] : List Value).toArray below meth c H locs 0 0 (MQ below (gQ D none (w_1_2_7_8_9_10 q cI cJ cD Tn Ta Rn9 Ra9 Rb9 Rd9) (gA q [1, 2, 7, 8, 9, 10])) ([.ref (q 7), .ref (q 1)] : List Value).toArray s 0 0 (gA q [1, 2, 7, 8, 9, 10])) (F0 m 17 ls []) := by
        intro n17
        induction n17 with
        | zero =>
          intro Rn Ra Rb Rd x2 x3 hf
          exact nomatch (show (none : Option (Int32 × (Nat → Int32) × (Nat → Int32) × (Nat → Int32))) = some (Rn9, Ra9, Rb9, Rd9) from hf)
        | succ n17 ih17 =>
          intro Rn Ra Rb Rd x2 x3 hf H locs hP hS ls hl
          have hf : fX6_find_B17 N Tn Ta (fX6_find_H7 N Tn Ta n7) (fX6_find_H17 N Tn Ta (fX6_find_H7 N Tn Ta n7) n17) Rn Ra Rb Rd x2 x3 = some (Rn9, Ra9, Rb9, Rd9) := hf
          unfold fX6_find_B17 at hf
          refine lv_iload_n hx hb dX6_find_17 rfl (lv_at hl 2 rfl) ?_
          refine lv_iconst (v := (2 : Int32)) hx hb dX6_find_18 (by decide) ?_
          refine lv_iload_n hx hb dX6_find_19 rfl (lv_at hl 3 rfl) ?_
          refine lv_imul hx hb dX6_find_20 ?_
          refine lv_iadd hx hb dX6_find_21 ?_
          refine lv_aload_n hx hb dX6_find_22 rfl (lv_at hl 1 rfl) ?_
          obtain ⟨r23, hc, hf⟩ := bn_some hf
          try dsimp only at hf
          refine g_call0 (ws' := (w_1_2_7_8_9_10 q cI cJ cD Tn Ta Rn Ra Rb Rd)) (st1 := [.int r23, .int (x2 + ((2 : Int32) * x3))]) hq [1, 2, 7, 8, 9, 10] [1] [.inl 0, .inr 1, .inr 2, .inr 3, .inr 4, .inr 5] (va_runV (As := []) (rest := [.int (x2 + ((2 : Int32) * x3))]) ⟨hx, hb, hml, hown, hts⟩ (kX2_count l D cI cJ cD q hq N Tn r23 hc) (cwV 0 hts gX6_find_X2_count rfl rfl rfl (by decide +kernel) ⟨(Nat.le_of_ble_eq_true rfl), (Nat.le_of_ble_eq_true rfl)⟩) ⟨gP_blind, va_recv hE.1 hP (ci := 2) (q0 := 0) rfl rfl, fun U hU hW => ⟨rfl, by rw [hU]; exact hP.sub (ws' := (w_1 q cI cJ cD Tn)) [0] rfl, gEv.warm hW hE⟩⟩ rfl rfl hl.1 rfl (lv_room (Nat.le_of_ble_eq_true rfl)) dX6_find_23 ⟨Nat.zero_le _, Nat.zero_le _⟩) hP hS (gSub rfl) rfl rfl rfl rfl rfl (fun H locs hP hS => ?_)
          refine lv_icmp_gt (tgt := 42) hx hb dX6_find_26 (by decide) (fun c_1 => ?_) (fun c_1 => ?_)
          · have hf := (if_pos c_1).symm.trans hf
            exact J42 Rn Ra Rb Rd x2 hf _ _ hP hS _ (lv_sub hl [0, 1, 2] rfl)
          · have hf := (if_neg c_1).symm.trans hf
            refine lv_aload_n hx hb dX6_find_29 rfl (lv_at hl 0 rfl) ?_
            refine lv_aload_n hx hb dX6_find_30 rfl (lv_at hl 1 rfl) ?_
            refine lv_iload_n hx hb dX6_find_31 rfl (lv_at hl 2 rfl) ?_
            refine lv_iload_n hx hb dX6_find_32 rfl (lv_at hl 3 rfl) ?_
            obtain ⟨⟨Rn33, Ra33, Rb33, Rd33⟩, hc, hf⟩ := bn_some hf
            try dsimp only at hf
            refine g_call0 (ws' := (w_1_2_7_8_9_10 q cI cJ cD Tn Ta Rn33 Ra33 Rb33 Rd33)) (st1 := []) hq [1, 2, 7, 8, 9, 10] [1, 2, 7, 8, 9, 10] [.inl 0, .inl 1, .inl 2, .inl 3, .inl 4, .inl 5] (va_runV (As := [.ref (q 1), .int x2, .int x3]) (rest := []) ⟨hx, hb, hml, hown, hts⟩ (kX6_findOne l D cI cJ cD q hq N Tn Ta Rn Ra Rb Rd x2 x3 Rn33 Ra33 Rb33 Rd33 hc) (cwV 3 hts gX6_find_X6_findOne rfl rfl rfl (by decide +kernel) ⟨(Nat.le_of_ble_eq_true rfl), (Nat.le_of_ble_eq_true rfl)⟩) ⟨gP_blind, va_recv hE.1 hP (ci := 4) (q0 := 2) rfl rfl, fun U hU hW => ⟨rfl, by rw [hU]; exact hP.sub (ws' := (w_1_2_7_8_9_10 q cI cJ cD Tn Ta Rn Ra Rb Rd)) [0, 1, 2, 3, 4, 5] rfl, gEv.warm hW hE⟩⟩ rfl rfl hl.1 rfl (lv_room (Nat.le_of_ble_eq_true rfl)) dX6_find_33 ⟨Nat.zero_le _, Nat.zero_le _⟩) hP hS (gSub rfl) rfl rfl rfl rfl rfl (fun H locs hP hS => ?_)
            refine lv_iinc (v := (x3 + 1)) (lv' := [(3, .int (x3 + 1)), (0, .ref (q 7)), (1, .ref (q 1)), (2, .int x2)]) hx hb dX6_find_36 hl (k := 3) rfl rfl (by decide) rfl (fun ls hl => ?_)
            refine lv_goto (tgt := 17) hx hb dX6_find_39 (by decide) ?_
            exact ih17 Rn33 Ra33 Rb33 Rd33 x2 (x3 + 1) hf _ _ hP hS _ (lv_sub hl [1, 2, 3, 0] rfl)
      intro Rn Ra Rb Rd x2 hf H locs hP hS ls hl
      have hf : fX6_find_B7 N Tn Ta (fX6_find_H7 N Tn Ta n7) Rn Ra Rb Rd x2 = some (Rn9, Ra9, Rb9, Rd9) := hf
      unfold fX6_find_B7 at hf
      refine lv_iload_n hx hb dX6_find_7 rfl (lv_at hl 2 rfl) ?_
      refine lv_aload_n hx hb dX6_find_8 rfl (lv_at hl 1 rfl) ?_
      obtain ⟨r9, hc, hf⟩ := bn_some hf
      try dsimp only at hf
      refine g_call0 (ws' := (w_1_2_7_8_9_10 q cI cJ cD Tn Ta Rn Ra Rb Rd)) (st1 := [.int r9, .int x2]) hq [1, 2, 7, 8, 9, 10] [1] [.inl 0, .inr 1, .inr 2, .inr 3, .inr 4, .inr 5] (va_runV (As := []) (rest := [.int x2]) ⟨hx, hb, hml, hown, hts⟩ (kX2_count l D cI cJ cD q hq N Tn r9 hc) (cwV 0 hts gX6_find_X2_count rfl rfl rfl (by decide +kernel) ⟨(Nat.le_of_ble_eq_true rfl), (Nat.le_of_ble_eq_true rfl)⟩) ⟨gP_blind, va_recv hE.1 hP (ci := 2) (q0 := 0) rfl rfl, fun U hU hW => ⟨rfl, by rw [hU]; exact hP.sub (ws' := (w_1 q cI cJ cD Tn)) [0] rfl, gEv.warm hW hE⟩⟩ rfl rfl hl.1 rfl (lv_room (Nat.le_of_ble_eq_true rfl)) dX6_find_9 ⟨Nat.zero_le _, Nat.zero_le _⟩) hP hS (gSub rfl) rfl rfl rfl rfl rfl (fun H locs hP hS => ?_)
      refine lv_icmp_ge (tgt := 48) hx hb dX6_find_12 (by decide) (fun c_2 => ?_) (fun c_2 => ?_)
      · have hf := (if_pos c_2).symm.trans hf
        exact J48 Rn Ra Rb Rd hf _ _ hP hS _ (lv_sub hl [] rfl)
      · have hf := (if_neg c_2).symm.trans hf
        refine lv_iconst (v := (1 : Int32)) hx hb dX6_find_15 (by decide) ?_
        refine lv_istore_n (lv' := [(3, .int (1 : Int32)), (0, .ref (q 7)), (1, .ref (q 1)), (2, .int x2)]) hx hb dX6_find_16 rfl hl (by decide) rfl (fun ls hl => ?_)
        exact K17 N Rn Ra Rb Rd x2 (1 : Int32) hf _ _ hP hS _ (lv_sub hl [1, 2, 3, 0] rfl)
  unfold fX6_find at hf
  refine lv_aload_n hx hb dX6_find_0 rfl (lv_at hl 0 rfl) ?_
  refine lv_iconst (v := (0 : Int32)) hx hb dX6_find_1 (by decide) ?_
  refine va_put (D := D) (ci := 4) (v := .int (0 : Int32)) (ty := .int) (C := RX6) (T := TX6) (N := 4) hx hb hts huX6 tyX6 tyX6_ok nmX6 hown hE.1 hP (hDm Tn Ta Rn Ra Rb Rd) hS 2 rfl rfl 3 (by decide) hk21 (fun _ h9 => h9) rfl (by decide +kernel) rfl rfl (Nat.le_of_ble_eq_true rfl) dX6_find_2 (fun H locs hP _ hS => ?_)
  have hP : va_P D vwCl (w_1_2_7_8_9_10 q cI cJ cD Tn Ta (0 : Int32) Ra Rb Rd) H := hP
  refine lv_iconst (v := (0 : Int32)) hx hb dX6_find_5 (by decide) ?_
  refine lv_istore_n (lv' := [(2, .int (0 : Int32)), (0, .ref (q 7)), (1, .ref (q 1))]) hx hb dX6_find_6 rfl hl (by decide) rfl (fun ls hl => ?_)
  exact K7 N (0 : Int32) Ra Rb Rd (0 : Int32) hf _ _ hP hS _ (lv_sub hl [1, 2, 0] rfl)
set_option maxHeartbeats 4000000 in
set_option maxRecDepth 100000 in
theorem kX6_count (l : Launch) (D : va_G) (cI cJ cD : ClassId) (q : Nat → Nat) (hq : gInj 14 q) (N : Nat) (Rn : Int32) (r0 : Int32) (hf : fX6_count N Rn = some r0) : Met l yX6_count wsX6_count rX6_count (gP D cI cJ cD [.ref (q 7)] (w_7 q cI cJ cD Rn)) (gQ D (some (.int r0)) (w_7 q cI cJ cD Rn) (gA q [7])) 0 0 (gA q [7]) := by
  refine Met.ofW (cc := cX6_count) (maxL := 1) (ret := (some .int)) (by decide +kernel) rfl ?_
  intro p e s m args below meth c s₁ B hml hv
  obtain ⟨rfl, hP, hE⟩ := hv
  have hx := B.exec
  have hb := B.bytes
  have hr := B.returns
  have hts := atoms_spec (ws := wsX6_count) B.pre
  have hown : s.vm.findClass RX6 = some m.cls := findClass_of_methodNamed B.named
  have hlocks := B.notSynchronized
  have hS : va_S (gA q [7]) s.heap s.heap [] := va_S.rf
  have hl := lv_entry ([.ref (q 7)]) (n := 1) (Nat.le_of_ble_eq_true rfl)
  rw [lg_entry_eq]
  generalize (lg_sl ([.ref (q 7)]) ++ List.replicate (1 - (lg_sl ([.ref (q 7)])).length) Slot.unset).toArray = ls at hl ⊢
  have hl : lv_has ls 1 [(0, .ref (q 7))] := hl
  have hk21 := hts (.fieldLink RX6 21 "LyndonText$Runs" "count" "I") (by decide +kernel)
  have huX6 : ∀ w ∈ u_ws RX6 TX6 4, w ∈ wsX6_count := by decide +kernel
  unfold fX6_count at hf
  refine lv_aload_n hx hb dX6_count_0 rfl (lv_at hl 0 rfl) ?_
  refine va_get (D := D) (ci := 4) (v := .int Rn) (C := RX6) (T := TX6) (N := 4) hx hb hts huX6 hown hE.1 hP 0 rfl rfl 3 (by decide) hk21 (fun _ h9 => h9) rfl dX6_count_1 ?_
  cases hf
  exact W.iret hx hb hr (fun t ht hW => ⟨⟨rfl, by rw [ht]; exact hP⟩, hS.F ht⟩) hS.2.2 dX6_count_4
set_option maxHeartbeats 4000000 in
set_option maxRecDepth 100000 in
theorem kX6_start (l : Launch) (D : va_G) (cI cJ cD : ClassId) (q : Nat → Nat) (hq : gInj 14 q) (N : Nat) (Rn : Int32) (Ra : (Nat → Int32)) (p1 : Int32) (r0 : Int32) (hf : fX6_start N Rn Ra p1 = some r0) : Met l yX6_start wsX6_start rX6_start (gP D cI cJ cD [.ref (q 7), .int p1] (w_7_8 q cI cJ cD Rn Ra)) (gQ D (some (.int r0)) (w_7_8 q cI cJ cD Rn Ra) (gA q [7, 8])) 0 0 (gA q [7, 8]) := by
  refine Met.ofW (cc := cX6_start) (maxL := 2) (ret := (some .int)) (by decide +kernel) rfl ?_
  intro p e s m args below meth c s₁ B hml hv
  obtain ⟨rfl, hP, hE⟩ := hv
  have hx := B.exec
  have hb := B.bytes
  have hr := B.returns
  have hts := atoms_spec (ws := wsX6_start) B.pre
  have hown : s.vm.findClass RX6 = some m.cls := findClass_of_methodNamed B.named
  have hlocks := B.notSynchronized
  have hS : va_S (gA q [7, 8]) s.heap s.heap [] := va_S.rf
  have hl := lv_entry ([.ref (q 7), .int p1]) (n := 2) (Nat.le_of_ble_eq_true rfl)
  rw [lg_entry_eq]
  generalize (lg_sl ([.ref (q 7), .int p1]) ++ List.replicate (2 - (lg_sl ([.ref (q 7), .int p1])).length) Slot.unset).toArray = ls at hl ⊢
  have hl : lv_has ls 2 [(0, .ref (q 7)), (1, .int p1)] := hl
  have hk9 := hts (.fieldLink RX6 9 "LyndonText$Runs" "starts" "[I") (by decide +kernel)
  have huX6 : ∀ w ∈ u_ws RX6 TX6 4, w ∈ wsX6_start := by decide +kernel
  unfold fX6_start at hf
  refine lv_aload_n hx hb dX6_start_0 rfl (lv_at hl 0 rfl) ?_
  refine va_get (D := D) (ci := 4) (v := .ref (q 8)) (C := RX6) (T := TX6) (N := 4) hx hb hts huX6 hown hE.1 hP 0 rfl rfl 0 (by decide) hk9 (fun _ h9 => h9) rfl dX6_start_1 ?_
  refine lv_iload_n hx hb dX6_start_4 rfl (lv_at hl 1 rfl) ?_
  obtain ⟨r5, hc, hf⟩ := bn_some hf
  try dsimp only at hf
  refine g_call0 (ws' := (w_7_8 q cI cJ cD Rn Ra)) (st1 := [.int r5]) hq [7, 8] [8] [.inr 0, .inl 0] (va_runSN (As := [.ref (q 8), .int p1]) (rest := []) ⟨hx, hb, hml, hown, hts⟩ (kX8_at l D cI cJ cD q hq 8 (by decide) N 64 Ra p1 r5 hc) ⟨va_cnB (host := RX8) 2 hts gX6_start_X8_at_n25 rfl rfl rfl (hE.2 (.methodLinkNest RX6 25 yX8_at RX8) (by decide +kernel)) (hts (.initialized RX8) (by decide +kernel)) (by decide +kernel) ⟨(Nat.le_of_ble_eq_true rfl), (Nat.le_of_ble_eq_true rfl)⟩, hts (.static yX8_at) (by decide +kernel), trivial⟩ ⟨gP_blind, fun U hU hW => ⟨rfl, by rw [hU]; exact hP.sub (ws' := (w_G q cI 8 64 Ra)) [1] rfl, gEv.warm hW hE⟩⟩ rfl rfl hl.1 rfl (lv_room (Nat.le_of_ble_eq_true rfl)) dX6_start_5 ⟨Nat.zero_le _, Nat.zero_le _⟩) hP hS (gSub rfl) rfl rfl rfl rfl rfl (fun H locs hP hS => ?_)
  cases hf
  exact W.iret hx hb hr (fun t ht hW => ⟨⟨rfl, by rw [ht]; exact hP⟩, hS.F ht⟩) hS.2.2 dX6_start_8
set_option maxHeartbeats 4000000 in
set_option maxRecDepth 100000 in
theorem kX6_end (l : Launch) (D : va_G) (cI cJ cD : ClassId) (q : Nat → Nat) (hq : gInj 14 q) (N : Nat) (Rn : Int32) (Rb : (Nat → Int32)) (p1 : Int32) (r0 : Int32) (hf : fX6_end N Rn Rb p1 = some r0) : Met l yX6_end wsX6_end rX6_end (gP D cI cJ cD [.ref (q 7), .int p1] (w_7_9 q cI cJ cD Rn Rb)) (gQ D (some (.int r0)) (w_7_9 q cI cJ cD Rn Rb) (gA q [7, 9])) 0 0 (gA q [7, 9]) := by
  refine Met.ofW (cc := cX6_end) (maxL := 2) (ret := (some .int)) (by decide +kernel) rfl ?_
  intro p e s m args below meth c s₁ B hml hv
  obtain ⟨rfl, hP, hE⟩ := hv
  have hx := B.exec
  have hb := B.bytes
  have hr := B.returns
  have hts := atoms_spec (ws := wsX6_end) B.pre
  have hown : s.vm.findClass RX6 = some m.cls := findClass_of_methodNamed B.named
  have hlocks := B.notSynchronized
  have hS : va_S (gA q [7, 9]) s.heap s.heap [] := va_S.rf
  have hl := lv_entry ([.ref (q 7), .int p1]) (n := 2) (Nat.le_of_ble_eq_true rfl)
  rw [lg_entry_eq]
  generalize (lg_sl ([.ref (q 7), .int p1]) ++ List.replicate (2 - (lg_sl ([.ref (q 7), .int p1])).length) Slot.unset).toArray = ls at hl ⊢
  have hl : lv_has ls 2 [(0, .ref (q 7)), (1, .int p1)] := hl
  have hk15 := hts (.fieldLink RX6 15 "LyndonText$Runs" "ends" "[I") (by decide +kernel)
  have huX6 : ∀ w ∈ u_ws RX6 TX6 4, w ∈ wsX6_end := by decide +kernel
  unfold fX6_end at hf
  refine lv_aload_n hx hb dX6_end_0 rfl (lv_at hl 0 rfl) ?_
  refine va_get (D := D) (ci := 4) (v := .ref (q 9)) (C := RX6) (T := TX6) (N := 4) hx hb hts huX6 hown hE.1 hP 0 rfl rfl 1 (by decide) hk15 (fun _ h9 => h9) rfl dX6_end_1 ?_
  refine lv_iload_n hx hb dX6_end_4 rfl (lv_at hl 1 rfl) ?_
  obtain ⟨r5, hc, hf⟩ := bn_some hf
  try dsimp only at hf
  refine g_call0 (ws' := (w_7_9 q cI cJ cD Rn Rb)) (st1 := [.int r5]) hq [7, 9] [9] [.inr 0, .inl 0] (va_runSN (As := [.ref (q 9), .int p1]) (rest := []) ⟨hx, hb, hml, hown, hts⟩ (kX8_at l D cI cJ cD q hq 9 (by decide) N 64 Rb p1 r5 hc) ⟨va_cnB (host := RX8) 2 hts gX6_end_X8_at_n25 rfl rfl rfl (hE.2 (.methodLinkNest RX6 25 yX8_at RX8) (by decide +kernel)) (hts (.initialized RX8) (by decide +kernel)) (by decide +kernel) ⟨(Nat.le_of_ble_eq_true rfl), (Nat.le_of_ble_eq_true rfl)⟩, hts (.static yX8_at) (by decide +kernel), trivial⟩ ⟨gP_blind, fun U hU hW => ⟨rfl, by rw [hU]; exact hP.sub (ws' := (w_G q cI 9 64 Rb)) [1] rfl, gEv.warm hW hE⟩⟩ rfl rfl hl.1 rfl (lv_room (Nat.le_of_ble_eq_true rfl)) dX6_end_5 ⟨Nat.zero_le _, Nat.zero_le _⟩) hP hS (gSub rfl) rfl rfl rfl rfl rfl (fun H locs hP hS => ?_)
  cases hf
  exact W.iret hx hb hr (fun t ht hW => ⟨⟨rfl, by rw [ht]; exact hP⟩, hS.F ht⟩) hS.2.2 dX6_end_8
set_option maxHeartbeats 4000000 in
set_option maxRecDepth 100000 in
theorem kX6_leastPeriod (l : Launch) (D : va_G) (cI cJ cD : ClassId) (q : Nat → Nat) (hq : gInj 14 q) (N : Nat) (Rn : Int32) (Rd : (Nat → Int32)) (p1 : Int32) (r0 : Int32) (hf : fX6_leastPeriod N Rn Rd p1 = some r0) : Met l yX6_leastPeriod wsX6_leastPeriod rX6_leastPeriod (gP D cI cJ cD [.ref (q 7), .int p1] (w_7_10 q cI cJ cD Rn Rd)) (gQ D (some (.int r0)) (w_7_10 q cI cJ cD Rn Rd) (gA q [7, 10])) 0 0 (gA q [7, 10]) := by
  refine Met.ofW (cc := cX6_leastPeriod) (maxL := 2) (ret := (some .int)) (by decide +kernel) rfl ?_
  intro p e s m args below meth c s₁ B hml hv
  obtain ⟨rfl, hP, hE⟩ := hv
  have hx := B.exec
  have hb := B.bytes
  have hr := B.returns
  have hts := atoms_spec (ws := wsX6_leastPeriod) B.pre
  have hown : s.vm.findClass RX6 = some m.cls := findClass_of_methodNamed B.named
  have hlocks := B.notSynchronized
  have hS : va_S (gA q [7, 10]) s.heap s.heap [] := va_S.rf
  have hl := lv_entry ([.ref (q 7), .int p1]) (n := 2) (Nat.le_of_ble_eq_true rfl)
  rw [lg_entry_eq]
  generalize (lg_sl ([.ref (q 7), .int p1]) ++ List.replicate (2 - (lg_sl ([.ref (q 7), .int p1])).length) Slot.unset).toArray = ls at hl ⊢
  have hl : lv_has ls 2 [(0, .ref (q 7)), (1, .int p1)] := hl
  have hk18 := hts (.fieldLink RX6 18 "LyndonText$Runs" "distances" "[I") (by decide +kernel)
  have huX6 : ∀ w ∈ u_ws RX6 TX6 4, w ∈ wsX6_leastPeriod := by decide +kernel
  unfold fX6_leastPeriod at hf
  refine lv_aload_n hx hb dX6_leastPeriod_0 rfl (lv_at hl 0 rfl) ?_
  refine va_get (D := D) (ci := 4) (v := .ref (q 10)) (C := RX6) (T := TX6) (N := 4) hx hb hts huX6 hown hE.1 hP 0 rfl rfl 2 (by decide) hk18 (fun _ h9 => h9) rfl dX6_leastPeriod_1 ?_
  refine lv_iload_n hx hb dX6_leastPeriod_4 rfl (lv_at hl 1 rfl) ?_
  obtain ⟨r5, hc, hf⟩ := bn_some hf
  try dsimp only at hf
  refine g_call0 (ws' := (w_7_10 q cI cJ cD Rn Rd)) (st1 := [.int r5]) hq [7, 10] [10] [.inr 0, .inl 0] (va_runSN (As := [.ref (q 10), .int p1]) (rest := []) ⟨hx, hb, hml, hown, hts⟩ (kX8_at l D cI cJ cD q hq 10 (by decide) N 64 Rd p1 r5 hc) ⟨va_cnB (host := RX8) 2 hts gX6_leastPeriod_X8_at_n25 rfl rfl rfl (hE.2 (.methodLinkNest RX6 25 yX8_at RX8) (by decide +kernel)) (hts (.initialized RX8) (by decide +kernel)) (by decide +kernel) ⟨(Nat.le_of_ble_eq_true rfl), (Nat.le_of_ble_eq_true rfl)⟩, hts (.static yX8_at) (by decide +kernel), trivial⟩ ⟨gP_blind, fun U hU hW => ⟨rfl, by rw [hU]; exact hP.sub (ws' := (w_G q cI 10 64 Rd)) [1] rfl, gEv.warm hW hE⟩⟩ rfl rfl hl.1 rfl (lv_room (Nat.le_of_ble_eq_true rfl)) dX6_leastPeriod_5 ⟨Nat.zero_le _, Nat.zero_le _⟩) hP hS (gSub rfl) rfl rfl rfl rfl rfl (fun H locs hP hS => ?_)
  cases hf
  exact W.iret hx hb hr (fun t ht hW => ⟨⟨rfl, by rw [ht]; exact hP⟩, hS.F ht⟩) hS.2.2 dX6_leastPeriod_8
set_option maxHeartbeats 4000000 in
set_option maxRecDepth 100000 in
theorem kX6_size (l : Launch) (D : va_G) (cI cJ cD : ClassId) (q : Nat → Nat) (hq : gInj 14 q) (N : Nat) (Rn : Int32) (Ra : (Nat → Int32)) (Rb : (Nat → Int32)) (p1 : Int32) (r0 : Int32) (hf : fX6_size N Rn Ra Rb p1 = some r0) : Met l yX6_size wsX6_size rX6_size (gP D cI cJ cD [.ref (q 7), .int p1] (w_7_8_9 q cI cJ cD Rn Ra Rb)) (gQ D (some (.int r0)) (w_7_8_9 q cI cJ cD Rn Ra Rb) (gA q [7, 8, 9])) 0 0 (gA q [7, 8, 9]) := by
  refine Met.ofW (cc := cX6_size) (maxL := 2) (ret := (some .int)) (by decide +kernel) rfl ?_
  intro p e s m args below meth c s₁ B hml hv
  obtain ⟨rfl, hP, hE⟩ := hv
  have hx := B.exec
  have hb := B.bytes
  have hr := B.returns
  have hts := atoms_spec (ws := wsX6_size) B.pre
  have hown : s.vm.findClass RX6 = some m.cls := findClass_of_methodNamed B.named
  have hlocks := B.notSynchronized
  have hS : va_S (gA q [7, 8, 9]) s.heap s.heap [] := va_S.rf
  have hl := lv_entry ([.ref (q 7), .int p1]) (n := 2) (Nat.le_of_ble_eq_true rfl)
  rw [lg_entry_eq]
  generalize (lg_sl ([.ref (q 7), .int p1]) ++ List.replicate (2 - (lg_sl ([.ref (q 7), .int p1])).length) Slot.unset).toArray = ls at hl ⊢
  have hl : lv_has ls 2 [(0, .ref (q 7)), (1, .int p1)] := hl
  have hk15 := hts (.fieldLink RX6 15 "LyndonText$Runs" "ends" "[I") (by decide +kernel)
  have hk9 := hts (.fieldLink RX6 9 "LyndonText$Runs" "starts" "[I") (by decide +kernel)
  have huX6 : ∀ w ∈ u_ws RX6 TX6 4, w ∈ wsX6_size := by decide +kernel
  unfold fX6_size at hf
  refine lv_aload_n hx hb dX6_size_0 rfl (lv_at hl 0 rfl) ?_
  refine va_get (D := D) (ci := 4) (v := .ref (q 9)) (C := RX6) (T := TX6) (N := 4) hx hb hts huX6 hown hE.1 hP 0 rfl rfl 1 (by decide) hk15 (fun _ h9 => h9) rfl dX6_size_1 ?_
  refine lv_iload_n hx hb dX6_size_4 rfl (lv_at hl 1 rfl) ?_
  obtain ⟨r5, hc, hf⟩ := bn_some hf
  try dsimp only at hf
  refine g_call0 (ws' := (w_7_8_9 q cI cJ cD Rn Ra Rb)) (st1 := [.int r5]) hq [7, 8, 9] [9] [.inr 0, .inr 1, .inl 0] (va_runSN (As := [.ref (q 9), .int p1]) (rest := []) ⟨hx, hb, hml, hown, hts⟩ (kX8_at l D cI cJ cD q hq 9 (by decide) N 64 Rb p1 r5 hc) ⟨va_cnB (host := RX8) 2 hts gX6_size_X8_at_n25 rfl rfl rfl (hE.2 (.methodLinkNest RX6 25 yX8_at RX8) (by decide +kernel)) (hts (.initialized RX8) (by decide +kernel)) (by decide +kernel) ⟨(Nat.le_of_ble_eq_true rfl), (Nat.le_of_ble_eq_true rfl)⟩, hts (.static yX8_at) (by decide +kernel), trivial⟩ ⟨gP_blind, fun U hU hW => ⟨rfl, by rw [hU]; exact hP.sub (ws' := (w_G q cI 9 64 Rb)) [2] rfl, gEv.warm hW hE⟩⟩ rfl rfl hl.1 rfl (lv_room (Nat.le_of_ble_eq_true rfl)) dX6_size_5 ⟨Nat.zero_le _, Nat.zero_le _⟩) hP hS (gSub rfl) rfl rfl rfl rfl rfl (fun H locs hP hS => ?_)
  refine lv_aload_n hx hb dX6_size_8 rfl (lv_at hl 0 rfl) ?_
  refine va_get (D := D) (ci := 4) (v := .ref (q 8)) (C := RX6) (T := TX6) (N := 4) hx hb hts huX6 hown hE.1 hP 0 rfl rfl 0 (by decide) hk9 (fun _ h9 => h9) rfl dX6_size_9 ?_
  refine lv_iload_n hx hb dX6_size_12 rfl (lv_at hl 1 rfl) ?_
  obtain ⟨r13, hc, hf⟩ := bn_some hf
  try dsimp only at hf
  refine g_call0 (ws' := (w_7_8_9 q cI cJ cD Rn Ra Rb)) (st1 := [.int r13, .int r5]) hq [7, 8, 9] [8] [.inr 0, .inl 0, .inr 2] (va_runSN (As := [.ref (q 8), .int p1]) (rest := [.int r5]) ⟨hx, hb, hml, hown, hts⟩ (kX8_at l D cI cJ cD q hq 8 (by decide) N 64 Ra p1 r13 hc) ⟨va_cnB (host := RX8) 2 hts gX6_size_X8_at_n25 rfl rfl rfl (hE.2 (.methodLinkNest RX6 25 yX8_at RX8) (by decide +kernel)) (hts (.initialized RX8) (by decide +kernel)) (by decide +kernel) ⟨(Nat.le_of_ble_eq_true rfl), (Nat.le_of_ble_eq_true rfl)⟩, hts (.static yX8_at) (by decide +kernel), trivial⟩ ⟨gP_blind, fun U hU hW => ⟨rfl, by rw [hU]; exact hP.sub (ws' := (w_G q cI 8 64 Ra)) [1] rfl, gEv.warm hW hE⟩⟩ rfl rfl hl.1 rfl (lv_room (Nat.le_of_ble_eq_true rfl)) dX6_size_13 ⟨Nat.zero_le _, Nat.zero_le _⟩) hP hS (gSub rfl) rfl rfl rfl rfl rfl (fun H locs hP hS => ?_)
  refine lv_isub hx hb dX6_size_16 ?_
  cases hf
  exact W.iret hx hb hr (fun t ht hW => ⟨⟨rfl, by rw [ht]; exact hP⟩, hS.F ht⟩) hS.2.2 dX6_size_17
set_option maxHeartbeats 4000000 in
set_option maxRecDepth 100000 in
theorem kX7_isLess (l : Launch) (D : va_G) (cI cJ cD : ClassId) (q : Nat → Nat) (hq : gInj 14 q) (N : Nat) (Tn : Int32) (Ta : (Nat → Int32)) (Ua : (Nat → Int32)) (p2 : Int32) (p3 : Int32) (r0 : Int32) (hf : fX7_isLess N Tn Ta Ua p2 p3 = some r0) : Met l yX7_isLess wsX7_isLess rX7_isLess (gP D cI cJ cD [.ref (q 11), .ref (q 1), .int p2, .int p3] (w_1_2_11_12 q cI cJ cD Tn Ta Ua)) (gQ D (some (.int r0)) (w_1_2_11_12 q cI cJ cD Tn Ta Ua) (gA q [1, 2, 11, 12])) 0 0 (gA q [1, 2, 11, 12]) := by
  refine Met.ofW (cc := cX7_isLess) (maxL := 5) (ret := (some .boolean)) (by decide +kernel) rfl ?_
  intro p e s m args below meth c s₁ B hml hv
  obtain ⟨rfl, hP, hE⟩ := hv
  have hx := B.exec
  have hb := B.bytes
  have hr := B.returns
  have hts := atoms_spec (ws := wsX7_isLess) B.pre
  have hown : s.vm.findClass RX7 = some m.cls := findClass_of_methodNamed B.named
  have hlocks := B.notSynchronized
  have hS : va_S (gA q [1, 2, 11, 12]) s.heap s.heap [] := va_S.rf
  have hl := lv_entry ([.ref (q 11), .ref (q 1), .int p2, .int p3]) (n := 5) (Nat.le_of_ble_eq_true rfl)
  rw [lg_entry_eq]
  generalize (lg_sl ([.ref (q 11), .ref (q 1), .int p2, .int p3]) ++ List.replicate (5 - (lg_sl ([.ref (q 11), .ref (q 1), .int p2, .int p3])).length) Slot.unset).toArray = ls at hl ⊢
  have hl : lv_has ls 5 [(0, .ref (q 11)), (1, .ref (q 1)), (2, .int p2), (3, .int p3)] := hl
  have hk9 := hts (.fieldLink RX7 9 "LyndonText$Suffixes" "ranks" "[I") (by decide +kernel)
  have huX7 : ∀ w ∈ u_ws RX7 TX7 1, w ∈ wsX7_isLess := by decide +kernel
  have J59 : ∀ (y0 : Int32), fX7_isLess_J59 N Tn Ta Ua y0 = some r0 → ∀ (H : Heap) (locs : List Loc), va_P D vwCl (w_1_2_11_12 q cI cJ cD Tn Ta Ua) H → va_S (gA q [1, 2, 11, 12]) s.heap H locs → ∀ ls : Array Slot, lv_has ls 5 [] → W p l e (headSpec wsX7_isLess rX7_isLess).room s m ([.ref (q 11), .ref (q 1), .int p2, .int p3] : List Value).toArray below meth c H locs 0 0 (MQ below (gQ D (some (.int r0)) (w_1_2_11_12 q cI cJ cD Tn Ta Ua) (gA q [1, 2, 11, 12])) ([.ref (q 11), .ref (q 1), .int p2, .int p3] : List Value).toArray s 0 0 (gA q [1, 2, 11, 12])) (F0 m 59 ls [.int y0]) := by
    intro y0 hf H locs hP hS ls hl
    unfold fX7_isLess_J59 at hf
    obtain ⟨g_1, hf⟩ := gd_some hf
    cases hf
    exact W.zret (ty := .boolean) hx hb hr (isB_nar g_1) (fun t ht hW => ⟨⟨rfl, by rw [ht]; exact hP⟩, hS.F ht⟩) hS.2.2 dX7_isLess_59
  unfold fX7_isLess at hf
  refine lv_aload_n hx hb dX7_isLess_0 rfl (lv_at hl 1 rfl) ?_
  refine lv_iload_n hx hb dX7_isLess_1 rfl (lv_at hl 2 rfl) ?_
  obtain ⟨r2, hc, hf⟩ := bn_some hf
  try dsimp only at hf
  refine g_call0 (ws' := (w_1_2_11_12 q cI cJ cD Tn Ta Ua)) (st1 := [.int r2]) hq [1, 2, 11, 12] [1, 2] [.inl 0, .inl 1, .inr 2, .inr 3] (va_runV (As := [.int p2]) (rest := []) ⟨hx, hb, hml, hown, hts⟩ (kX2_letter l D cI cJ cD q hq N Tn Ta p2 r2 hc) (cwV 1 hts gX7_isLess_X2_letter rfl rfl rfl (by decide +kernel) ⟨(Nat.le_of_ble_eq_true rfl), (Nat.le_of_ble_eq_true rfl)⟩) ⟨gP_blind, va_recv hE.1 hP (ci := 2) (q0 := 0) rfl rfl, fun U hU hW => ⟨rfl, by rw [hU]; exact hP.sub (ws' := (w_1_2 q cI cJ cD Tn Ta)) [0, 1] rfl, gEv.warm hW hE⟩⟩ rfl rfl hl.1 rfl (lv_room (Nat.le_of_ble_eq_true rfl)) dX7_isLess_2 ⟨Nat.zero_le _, Nat.zero_le _⟩) hP hS (gSub rfl) rfl rfl rfl rfl rfl (fun H locs hP hS => ?_)
  refine lv_aload_n hx hb dX7_isLess_5 rfl (lv_at hl 1 rfl) ?_
  refine lv_iload_n hx hb dX7_isLess_6 rfl (lv_at hl 3 rfl) ?_
  obtain ⟨r7, hc, hf⟩ := bn_some hf
  try dsimp only at hf
  refine g_call0 (ws' := (w_1_2_11_12 q cI cJ cD Tn Ta Ua)) (st1 := [.int r7, .int r2]) hq [1, 2, 11, 12] [1, 2] [.inl 0, .inl 1, .inr 2, .inr 3] (va_runV (As := [.int p3]) (rest := [.int r2]) ⟨hx, hb, hml, hown, hts⟩ (kX2_letter l D cI cJ cD q hq N Tn Ta p3 r7 hc) (cwV 1 hts gX7_isLess_X2_letter rfl rfl rfl (by decide +kernel) ⟨(Nat.le_of_ble_eq_true rfl), (Nat.le_of_ble_eq_true rfl)⟩) ⟨gP_blind, va_recv hE.1 hP (ci := 2) (q0 := 0) rfl rfl, fun U hU hW => ⟨rfl, by rw [hU]; exact hP.sub (ws' := (w_1_2 q cI cJ cD Tn Ta)) [0, 1] rfl, gEv.warm hW hE⟩⟩ rfl rfl hl.1 rfl (lv_room (Nat.le_of_ble_eq_true rfl)) dX7_isLess_7 ⟨Nat.zero_le _, Nat.zero_le _⟩) hP hS (gSub rfl) rfl rfl rfl rfl rfl (fun H locs hP hS => ?_)
  refine lv_isub hx hb dX7_isLess_10 ?_
  refine lv_istore (lv' := [(4, .int (r2 - r7)), (0, .ref (q 11)), (1, .ref (q 1)), (2, .int p2), (3, .int p3)]) hx hb dX7_isLess_11 hl (by decide) rfl (fun ls hl => ?_)
  refine lv_iload hx hb dX7_isLess_13 (lv_at hl 0 rfl) ?_
  refine lv_if_eq (tgt := 31) hx hb dX7_isLess_15 (by decide) (fun c_2 => ?_) (fun c_2 => ?_)
  · have hf := (if_pos c_2).symm.trans hf
    refine lv_aload_n hx hb dX7_isLess_31 rfl (lv_at hl 1 rfl) ?_
    refine va_get (D := D) (ci := 5) (v := .ref (q 12)) (C := RX7) (T := TX7) (N := 1) hx hb hts huX7 hown hE.1 hP 2 rfl rfl 0 (by decide) hk9 (fun _ h9 => h9) rfl dX7_isLess_32 ?_
    refine lv_iload_n hx hb dX7_isLess_35 rfl (lv_at hl 3 rfl) ?_
    refine lv_iconst (v := (1 : Int32)) hx hb dX7_isLess_36 (by decide) ?_
    refine lv_iadd hx hb dX7_isLess_37 ?_
    obtain ⟨r38, hc, hf⟩ := bn_some hf
    try dsimp only at hf
    refine g_call0 (ws' := (w_1_2_11_12 q cI cJ cD Tn Ta Ua)) (st1 := [.int r38]) hq [1, 2, 11, 12] [12] [.inr 0, .inr 1, .inr 2, .inl 0] (va_runSN (As := [.ref (q 12), .int (p2 + (1 : Int32))]) (rest := []) ⟨hx, hb, hml, hown, hts⟩ (kX8_at l D cI cJ cD q hq 12 (by decide) N 65 Ua (p2 + (1 : Int32)) r38 hc) ⟨va_cnB (host := RX8) 2 hts gX7_isLess_X8_at_n15 rfl rfl rfl (hE.2 (.methodLinkNest RX7 15 yX8_at RX8) (by decide +kernel)) (hts (.initialized RX8) (by decide +kernel)) (by decide +kernel) ⟨(Nat.le_of_ble_eq_true rfl), (Nat.le_of_ble_eq_true rfl)⟩, hts (.static yX8_at) (by decide +kernel), trivial⟩ ⟨gP_blind, fun U hU hW => ⟨rfl, by rw [hU]; exact hP.sub (ws' := (w_G q cI 12 65 Ua)) [3] rfl, gEv.warm hW hE⟩⟩ rfl rfl hl.1 rfl (lv_room (Nat.le_of_ble_eq_true rfl)) dX7_isLess_38 ⟨Nat.zero_le _, Nat.zero_le _⟩) hP hS (gSub rfl) rfl rfl rfl rfl rfl (fun H locs hP hS => ?_)
    refine lv_aload_n hx hb dX7_isLess_41 rfl (lv_at hl 1 rfl) ?_
    refine va_get (D := D) (ci := 5) (v := .ref (q 12)) (C := RX7) (T := TX7) (N := 1) hx hb hts huX7 hown hE.1 hP 2 rfl rfl 0 (by decide) hk9 (fun _ h9 => h9) rfl dX7_isLess_42 ?_
    refine lv_iload_n hx hb dX7_isLess_45 rfl (lv_at hl 4 rfl) ?_
    refine lv_iconst (v := (1 : Int32)) hx hb dX7_isLess_46 (by decide) ?_
    refine lv_iadd hx hb dX7_isLess_47 ?_
    obtain ⟨r48, hc, hf⟩ := bn_some hf
    try dsimp only at hf
    refine g_call0 (ws' := (w_1_2_11_12 q cI cJ cD Tn Ta Ua)) (st1 := [.int r48, .int r38]) hq [1, 2, 11, 12] [12] [.inr 0, .inr 1, .inr 2, .inl 0] (va_runSN (As := [.ref (q 12), .int (p3 + (1 : Int32))]) (rest := [.int r38]) ⟨hx, hb, hml, hown, hts⟩ (kX8_at l D cI cJ cD q hq 12 (by decide) N 65 Ua (p3 + (1 : Int32)) r48 hc) ⟨va_cnB (host := RX8) 2 hts gX7_isLess_X8_at_n15 rfl rfl rfl (hE.2 (.methodLinkNest RX7 15 yX8_at RX8) (by decide +kernel)) (hts (.initialized RX8) (by decide +kernel)) (by decide +kernel) ⟨(Nat.le_of_ble_eq_true rfl), (Nat.le_of_ble_eq_true rfl)⟩, hts (.static yX8_at) (by decide +kernel), trivial⟩ ⟨gP_blind, fun U hU hW => ⟨rfl, by rw [hU]; exact hP.sub (ws' := (w_G q cI 12 65 Ua)) [3] rfl, gEv.warm hW hE⟩⟩ rfl rfl hl.1 rfl (lv_room (Nat.le_of_ble_eq_true rfl)) dX7_isLess_48 ⟨Nat.zero_le _, Nat.zero_le _⟩) hP hS (gSub rfl) rfl rfl rfl rfl rfl (fun H locs hP hS => ?_)
    refine lv_icmp_ge (tgt := 58) hx hb dX7_isLess_51 (by decide) (fun c_3 => ?_) (fun c_3 => ?_)
    · have hf := (if_pos c_3).symm.trans hf
      refine lv_iconst (v := (0 : Int32)) hx hb dX7_isLess_58 (by decide) ?_
      exact J59 (0 : Int32) hf _ _ hP hS _ (lv_sub hl [] rfl)
    · have hf := (if_neg c_3).symm.trans hf
      refine lv_iconst (v := (1 : Int32)) hx hb dX7_isLess_54 (by decide) ?_
      refine lv_goto (tgt := 59) hx hb dX7_isLess_55 (by decide) ?_
      exact J59 (1 : Int32) hf _ _ hP hS _ (lv_sub hl [] rfl)
  · have hf := (if_neg c_2).symm.trans hf
    refine lv_iload hx hb dX7_isLess_18 (lv_at hl 0 rfl) ?_
    refine lv_if_ge (tgt := 27) hx hb dX7_isLess_20 (by decide) (fun c_4 => ?_) (fun c_4 => ?_)
    · have hf := (if_pos c_4).symm.trans hf
      refine lv_iconst (v := (0 : Int32)) hx hb dX7_isLess_27 (by decide) ?_
      refine lv_goto (tgt := 59) hx hb dX7_isLess_28 (by decide) ?_
      exact J59 (0 : Int32) hf _ _ hP hS _ (lv_sub hl [] rfl)
    · have hf := (if_neg c_4).symm.trans hf
      refine lv_iconst (v := (1 : Int32)) hx hb dX7_isLess_23 (by decide) ?_
      refine lv_goto (tgt := 59) hx hb dX7_isLess_24 (by decide) ?_
      exact J59 (1 : Int32) hf _ _ hP hS _ (lv_sub hl [] rfl)
set_option maxHeartbeats 4000000 in
set_option maxRecDepth 100000 in
theorem kX7_putInOrder (l : Launch) (D : va_G) (cI cJ cD : ClassId) (q : Nat → Nat) (hq : gInj 14 q) (N : Nat) (Tn : Int32) (Ta : (Nat → Int32)) (Ua : (Nat → Int32)) (p2 : Int32) (Ua9 : (Nat → Int32)) (hf : fX7_putInOrder N Tn Ta Ua p2 = some Ua9) : Met l yX7_putInOrder wsX7_putInOrder rX7_putInOrder (gP D cI cJ cD [.ref (q 11), .ref (q 1), .int p2] (w_1_2_11_12 q cI cJ cD Tn Ta Ua)) (gQ D none (w_1_2_11_12 q cI cJ cD Tn Ta Ua9) (gA q [1, 2, 11, 12])) 0 0 (gA q [1, 2, 11, 12]) := by
  refine Met.ofW (cc := cX7_putInOrder) (maxL := 5) (ret := none) (by decide +kernel) rfl ?_
  intro p e s m args below meth c s₁ B hml hv
  obtain ⟨rfl, hP, hE⟩ := hv
  have hx := B.exec
  have hb := B.bytes
  have hr := B.returns
  have hts := atoms_spec (ws := wsX7_putInOrder) B.pre
  have hown : s.vm.findClass RX7 = some m.cls := findClass_of_methodNamed B.named
  have hlocks := B.notSynchronized
  have hS : va_S (gA q [1, 2, 11, 12]) s.heap s.heap [] := va_S.rf
  have hl := lv_entry ([.ref (q 11), .ref (q 1), .int p2]) (n := 5) (Nat.le_of_ble_eq_true rfl)
  rw [lg_entry_eq]
  generalize (lg_sl ([.ref (q 11), .ref (q 1), .int p2]) ++ List.replicate (5 - (lg_sl ([.ref (q 11), .ref (q 1), .int p2])).length) Slot.unset).toArray = ls at hl ⊢
  have hl : lv_has ls 5 [(0, .ref (q 11)), (1, .ref (q 1)), (2, .int p2)] := hl
  have hk9 := hts (.fieldLink RX7 9 "LyndonText$Suffixes" "ranks" "[I") (by decide +kernel)
  have huX7 : ∀ w ∈ u_ws RX7 TX7 1, w ∈ wsX7_putInOrder := by decide +kernel
  have J89 : ∀ (Ua : (Nat → Int32)) (x2 : Int32) (x3 : Int32), fX7_putInOrder_J89 N Tn Ta Ua x2 x3 = some Ua9 → ∀ (H : Heap) (locs : List Loc), va_P D vwCl (w_1_2_11_12 q cI cJ cD Tn Ta Ua) H → va_S (gA q [1, 2, 11, 12]) s.heap H locs → ∀ ls : Array Slot, lv_has ls 5 [(0, .ref (q 11)), (2, .int x2), (3, .int x3)] → W p l e (headSpec wsX7_putInOrder rX7_putInOrder).room s m ([.ref (q 11), .ref (q 1), .int p2] : List Value).toArray below meth c H locs 0 0 (MQ below (gQ D none (w_1_2_11_12 q cI cJ cD Tn Ta Ua9) (gA q [1, 2, 11, 12])) ([.ref (q 11), .ref (q 1), .int p2] : List Value).toArray s 0 0 (gA q [1, 2, 11, 12])) (F0 m 89 ls []) := by
    intro Ua x2 x3 hf H locs hP hS ls hl
    unfold fX7_putInOrder_J89 at hf
    refine lv_aload_n hx hb dX7_putInOrder_89 rfl (lv_at hl 0 rfl) ?_
    refine va_get (D := D) (ci := 5) (v := .ref (q 12)) (C := RX7) (T := TX7) (N := 1) hx hb hts huX7 hown hE.1 hP 2 rfl rfl 0 (by decide) hk9 (fun _ h9 => h9) rfl dX7_putInOrder_90 ?_
    refine lv_iload_n hx hb dX7_putInOrder_93 rfl (lv_at hl 1 rfl) ?_
    refine lv_iload_n hx hb dX7_putInOrder_94 rfl (lv_at hl 2 rfl) ?_
    obtain ⟨g95, hc, hf⟩ := bn_some hf
    try dsimp only at hf
    refine g_call0 (ws' := (w_1_2_11_12 q cI cJ cD Tn Ta g95)) (st1 := []) hq [1, 2, 11, 12] [12] [.inr 0, .inr 1, .inr 2, .inl 0] (va_runSN (As := [.ref (q 12), .int x2, .int x3]) (rest := []) ⟨hx, hb, hml, hown, hts⟩ (kX8_put l D cI cJ cD q hq 12 (by decide) N 65 Ua x2 x3 g95 hc) ⟨va_cnB (host := RX8) 3 hts gX7_putInOrder_X8_put_n25 rfl rfl rfl (hE.2 (.methodLinkNest RX7 25 yX8_put RX8) (by decide +kernel)) (hts (.initialized RX8) (by decide +kernel)) (by decide +kernel) ⟨(Nat.le_of_ble_eq_true rfl), (Nat.le_of_ble_eq_true rfl)⟩, hts (.static yX8_put) (by decide +kernel), trivial⟩ ⟨gP_blind, fun U hU hW => ⟨rfl, by rw [hU]; exact hP.sub (ws' := (w_G q cI 12 65 Ua)) [3] rfl, gEv.warm hW hE⟩⟩ rfl rfl hl.1 rfl (lv_room (Nat.le_of_ble_eq_true rfl)) dX7_putInOrder_95 ⟨Nat.zero_le _, Nat.zero_le _⟩) hP hS (gSub rfl) rfl rfl rfl rfl rfl (fun H locs hP hS => ?_)
    cases hf
    exact W.vret hx hb hr (fun t ht hW => ⟨⟨rfl, by rw [ht]; exact hP⟩, hS.F ht⟩) hS.2.2 dX7_putInOrder_98
  have K41 : ∀ (n41 : Nat) (Ua : (Nat → Int32)) (x2 : Int32) (x3 : Int32) (x4 : Int32), fX7_putInOrder_H41 N Tn Ta n41 Ua x2 x3 x4 = some Ua9 → ∀ (H : Heap) (locs : List Loc), va_P D vwCl (w_1_2_11_12 q cI cJ cD Tn Ta Ua) H → va_S (gA q [1, 2, 11, 12]) s.heap H locs → ∀ ls : Array Slot, lv_has ls 5 [(0, .ref (q 11)), (1, .ref (q 1)), (2, .int x2), (3, .int x3), (4, .int x4)] → W p l e (headSpec wsX7_putInOrder rX7_putInOrder).room s m ([.ref (q 11), .ref (q 1), .int p2] : List Value).toArray below meth c H locs 0 0 (MQ below (gQ D none (w_1_2_11_12 q cI cJ cD Tn Ta Ua9) (gA q [1, 2, 11, 12])) ([.ref (q 11), .ref (q 1), .int p2] : List Value).toArray s 0 0 (gA q [1, 2, 11, 12])) (F0 m 41 ls []) := by
    intro n41
    induction n41 with
    | zero =>
      intro Ua x2 x3 x4 hf
      exact nomatch (show (none : Option (Nat → Int32)) = some Ua9 from hf)
    | succ n41 ih41 =>
      have J83 : ∀ (Ua : (Nat → Int32)) (x2 : Int32) (x3 : Int32) (x4 : Int32), fX7_putInOrder_J83 N Tn Ta (fX7_putInOrder_H41 N Tn Ta n41) Ua x2 x3 x4 = some Ua9 → ∀ (H : Heap) (locs : List Loc), va_P D vwCl (w_1_2_11_12 q cI cJ cD Tn Ta Ua) H → va_S (gA q [1, 2, 11, 12]) s.heap H locs → ∀ ls : Array Slot, lv_has ls 5 [(0, .ref (q 11)), (1, .ref (q 1)), (2, .int x2), (3, .int x3), (4, .int x4)] → W p l e (headSpec wsX7_putInOrder rX7_putInOrder).room s m ([.ref (q 11), .ref (q 1), .int p2] : List Value).toArray below meth c H locs 0 0 (MQ below (gQ D none (w_1_2_11_12 q cI cJ cD Tn Ta Ua9) (gA q [1, 2, 11, 12])) ([.ref (q 11), .ref (q 1), .int p2] : List Value).toArray s 0 0 (gA q [1, 2, 11, 12])) (F0 m 83 ls []) := by
        intro Ua x2 x3 x4 hf H locs hP hS ls hl
        unfold fX7_putInOrder_J83 at hf
        refine lv_iinc (v := (x4 + 1)) (lv' := [(4, .int (x4 + 1)), (0, .ref (q 11)), (1, .ref (q 1)), (2, .int x2), (3, .int x3)]) hx hb dX7_putInOrder_83 hl (k := 4) rfl rfl (by decide) rfl (fun ls hl => ?_)
        refine lv_goto (tgt := 41) hx hb dX7_putInOrder_86 (by decide) ?_
        exact ih41 Ua x2 x3 (x4 + 1) hf _ _ hP hS _ (lv_sub hl [1, 2, 3, 4, 0] rfl)
      intro Ua x2 x3 x4 hf H locs hP hS ls hl
      have hf : fX7_putInOrder_B41 N Tn Ta (fX7_putInOrder_H41 N Tn Ta n41) Ua x2 x3 x4 = some Ua9 := hf
      unfold fX7_putInOrder_B41 at hf
      refine lv_iload hx hb dX7_putInOrder_41 (lv_at hl 4 rfl) ?_
      refine lv_aload_n hx hb dX7_putInOrder_43 rfl (lv_at hl 1 rfl) ?_
      obtain ⟨r44, hc, hf⟩ := bn_some hf
      try dsimp only at hf
      refine g_call0 (ws' := (w_1_2_11_12 q cI cJ cD Tn Ta Ua)) (st1 := [.int r44, .int x4]) hq [1, 2, 11, 12] [1] [.inl 0, .inr 1, .inr 2, .inr 3] (va_runV (As := []) (rest := [.int x4]) ⟨hx, hb, hml, hown, hts⟩ (kX2_count l D cI cJ cD q hq N Tn r44 hc) (cwV 0 hts gX7_putInOrder_X2_count rfl rfl rfl (by decide +kernel) ⟨(Nat.le_of_ble_eq_true rfl), (Nat.le_of_ble_eq_true rfl)⟩) ⟨gP_blind, va_recv hE.1 hP (ci := 2) (q0 := 0) rfl rfl, fun U hU hW => ⟨rfl, by rw [hU]; exact hP.sub (ws' := (w_1 q cI cJ cD Tn)) [0] rfl, gEv.warm hW hE⟩⟩ rfl rfl hl.1 rfl (lv_room (Nat.le_of_ble_eq_true rfl)) dX7_putInOrder_44 ⟨Nat.zero_le _, Nat.zero_le _⟩) hP hS (gSub rfl) rfl rfl rfl rfl rfl (fun H locs hP hS => ?_)
      refine lv_icmp_ge (tgt := 89) hx hb dX7_putInOrder_47 (by decide) (fun c_1 => ?_) (fun c_1 => ?_)
      · have hf := (if_pos c_1).symm.trans hf
        exact J89 Ua x2 x3 hf _ _ hP hS _ (lv_sub hl [0, 2, 3] rfl)
      · have hf := (if_neg c_1).symm.trans hf
        refine lv_aload_n hx hb dX7_putInOrder_50 rfl (lv_at hl 0 rfl) ?_
        refine va_get (D := D) (ci := 5) (v := .ref (q 12)) (C := RX7) (T := TX7) (N := 1) hx hb hts huX7 hown hE.1 hP 2 rfl rfl 0 (by decide) hk9 (fun _ h9 => h9) rfl dX7_putInOrder_51 ?_
        refine lv_iload hx hb dX7_putInOrder_54 (lv_at hl 4 rfl) ?_
        obtain ⟨r56, hc, hf⟩ := bn_some hf
        try dsimp only at hf
        refine g_call0 (ws' := (w_1_2_11_12 q cI cJ cD Tn Ta Ua)) (st1 := [.int r56]) hq [1, 2, 11, 12] [12] [.inr 0, .inr 1, .inr 2, .inl 0] (va_runSN (As := [.ref (q 12), .int x4]) (rest := []) ⟨hx, hb, hml, hown, hts⟩ (kX8_at l D cI cJ cD q hq 12 (by decide) N 65 Ua x4 r56 hc) ⟨va_cnB (host := RX8) 2 hts gX7_putInOrder_X8_at_n15 rfl rfl rfl (hE.2 (.methodLinkNest RX7 15 yX8_at RX8) (by decide +kernel)) (hts (.initialized RX8) (by decide +kernel)) (by decide +kernel) ⟨(Nat.le_of_ble_eq_true rfl), (Nat.le_of_ble_eq_true rfl)⟩, hts (.static yX8_at) (by decide +kernel), trivial⟩ ⟨gP_blind, fun U hU hW => ⟨rfl, by rw [hU]; exact hP.sub (ws' := (w_G q cI 12 65 Ua)) [3] rfl, gEv.warm hW hE⟩⟩ rfl rfl hl.1 rfl (lv_room (Nat.le_of_ble_eq_true rfl)) dX7_putInOrder_56 ⟨Nat.zero_le _, Nat.zero_le _⟩) hP hS (gSub rfl) rfl rfl rfl rfl rfl (fun H locs hP hS => ?_)
        refine lv_iload_n hx hb dX7_putInOrder_59 rfl (lv_at hl 3 rfl) ?_
        refine lv_icmp_lt (tgt := 83) hx hb dX7_putInOrder_60 (by decide) (fun c_2 => ?_) (fun c_2 => ?_)
        · have hf := (if_pos c_2).symm.trans hf
          exact J83 Ua x2 x3 x4 hf _ _ hP hS _ (lv_sub hl [0, 1, 2, 3, 4] rfl)
        · have hf := (if_neg c_2).symm.trans hf
          refine lv_aload_n hx hb dX7_putInOrder_63 rfl (lv_at hl 0 rfl) ?_
          refine va_get (D := D) (ci := 5) (v := .ref (q 12)) (C := RX7) (T := TX7) (N := 1) hx hb hts huX7 hown hE.1 hP 2 rfl rfl 0 (by decide) hk9 (fun _ h9 => h9) rfl dX7_putInOrder_64 ?_
          refine lv_iload hx hb dX7_putInOrder_67 (lv_at hl 4 rfl) ?_
          refine lv_aload_n hx hb dX7_putInOrder_69 rfl (lv_at hl 0 rfl) ?_
          refine va_get (D := D) (ci := 5) (v := .ref (q 12)) (C := RX7) (T := TX7) (N := 1) hx hb hts huX7 hown hE.1 hP 2 rfl rfl 0 (by decide) hk9 (fun _ h9 => h9) rfl dX7_putInOrder_70 ?_
          refine lv_iload hx hb dX7_putInOrder_73 (lv_at hl 4 rfl) ?_
          obtain ⟨r75, hc, hf⟩ := bn_some hf
          try dsimp only at hf
          refine g_call0 (ws' := (w_1_2_11_12 q cI cJ cD Tn Ta Ua)) (st1 := [.int r75, .int x4, .ref (q 12)]) hq [1, 2, 11, 12] [12] [.inr 0, .inr 1, .inr 2, .inl 0] (va_runSN (As := [.ref (q 12), .int x4]) (rest := [.int x4, .ref (q 12)]) ⟨hx, hb, hml, hown, hts⟩ (kX8_at l D cI cJ cD q hq 12 (by decide) N 65 Ua x4 r75 hc) ⟨va_cnB (host := RX8) 2 hts gX7_putInOrder_X8_at_n15 rfl rfl rfl (hE.2 (.methodLinkNest RX7 15 yX8_at RX8) (by decide +kernel)) (hts (.initialized RX8) (by decide +kernel)) (by decide +kernel) ⟨(Nat.le_of_ble_eq_true rfl), (Nat.le_of_ble_eq_true rfl)⟩, hts (.static yX8_at) (by decide +kernel), trivial⟩ ⟨gP_blind, fun U hU hW => ⟨rfl, by rw [hU]; exact hP.sub (ws' := (w_G q cI 12 65 Ua)) [3] rfl, gEv.warm hW hE⟩⟩ rfl rfl hl.1 rfl (lv_room (Nat.le_of_ble_eq_true rfl)) dX7_putInOrder_75 ⟨Nat.zero_le _, Nat.zero_le _⟩) hP hS (gSub rfl) rfl rfl rfl rfl rfl (fun H locs hP hS => ?_)
          refine lv_iconst (v := (1 : Int32)) hx hb dX7_putInOrder_78 (by decide) ?_
          refine lv_iadd hx hb dX7_putInOrder_79 ?_
          obtain ⟨g80, hc, hf⟩ := bn_some hf
          try dsimp only at hf
          refine g_call0 (ws' := (w_1_2_11_12 q cI cJ cD Tn Ta g80)) (st1 := []) hq [1, 2, 11, 12] [12] [.inr 0, .inr 1, .inr 2, .inl 0] (va_runSN (As := [.ref (q 12), .int x4, .int (r75 + (1 : Int32))]) (rest := []) ⟨hx, hb, hml, hown, hts⟩ (kX8_put l D cI cJ cD q hq 12 (by decide) N 65 Ua x4 (r75 + (1 : Int32)) g80 hc) ⟨va_cnB (host := RX8) 3 hts gX7_putInOrder_X8_put_n25 rfl rfl rfl (hE.2 (.methodLinkNest RX7 25 yX8_put RX8) (by decide +kernel)) (hts (.initialized RX8) (by decide +kernel)) (by decide +kernel) ⟨(Nat.le_of_ble_eq_true rfl), (Nat.le_of_ble_eq_true rfl)⟩, hts (.static yX8_put) (by decide +kernel), trivial⟩ ⟨gP_blind, fun U hU hW => ⟨rfl, by rw [hU]; exact hP.sub (ws' := (w_G q cI 12 65 Ua)) [3] rfl, gEv.warm hW hE⟩⟩ rfl rfl hl.1 rfl (lv_room (Nat.le_of_ble_eq_true rfl)) dX7_putInOrder_80 ⟨Nat.zero_le _, Nat.zero_le _⟩) hP hS (gSub rfl) rfl rfl rfl rfl rfl (fun H locs hP hS => ?_)
          exact J83 g80 x2 x3 x4 hf _ _ hP hS _ (lv_sub hl [0, 1, 2, 3, 4] rfl)
  have J36 : ∀ (Ua : (Nat → Int32)) (x2 : Int32) (x3 : Int32), fX7_putInOrder_J36 N Tn Ta Ua x2 x3 = some Ua9 → ∀ (H : Heap) (locs : List Loc), va_P D vwCl (w_1_2_11_12 q cI cJ cD Tn Ta Ua) H → va_S (gA q [1, 2, 11, 12]) s.heap H locs → ∀ ls : Array Slot, lv_has ls 5 [(0, .ref (q 11)), (1, .ref (q 1)), (2, .int x2), (3, .int x3)] → W p l e (headSpec wsX7_putInOrder rX7_putInOrder).room s m ([.ref (q 11), .ref (q 1), .int p2] : List Value).toArray below meth c H locs 0 0 (MQ below (gQ D none (w_1_2_11_12 q cI cJ cD Tn Ta Ua9) (gA q [1, 2, 11, 12])) ([.ref (q 11), .ref (q 1), .int p2] : List Value).toArray s 0 0 (gA q [1, 2, 11, 12])) (F0 m 36 ls []) := by
    intro Ua x2 x3 hf H locs hP hS ls hl
    unfold fX7_putInOrder_J36 at hf
    refine lv_iload_n hx hb dX7_putInOrder_36 rfl (lv_at hl 2 rfl) ?_
    refine lv_iconst (v := (1 : Int32)) hx hb dX7_putInOrder_37 (by decide) ?_
    refine lv_iadd hx hb dX7_putInOrder_38 ?_
    refine lv_istore (lv' := [(4, .int (x2 + (1 : Int32))), (0, .ref (q 11)), (1, .ref (q 1)), (2, .int x2), (3, .int x3)]) hx hb dX7_putInOrder_39 hl (by decide) rfl (fun ls hl => ?_)
    exact K41 N Ua x2 x3 (x2 + (1 : Int32)) hf _ _ hP hS _ (lv_sub hl [1, 2, 3, 4, 0] rfl)
  have K7 : ∀ (n7 : Nat) (Ua : (Nat → Int32)) (x2 : Int32) (x3 : Int32) (x4 : Int32), fX7_putInOrder_H7 N Tn Ta n7 Ua x2 x3 x4 = some Ua9 → ∀ (H : Heap) (locs : List Loc), va_P D vwCl (w_1_2_11_12 q cI cJ cD Tn Ta Ua) H → va_S (gA q [1, 2, 11, 12]) s.heap H locs → ∀ ls : Array Slot, lv_has ls 5 [(0, .ref (q 11)), (1, .ref (q 1)), (2, .int x2), (3, .int x3), (4, .int x4)] → W p l e (headSpec wsX7_putInOrder rX7_putInOrder).room s m ([.ref (q 11), .ref (q 1), .int p2] : List Value).toArray below meth c H locs 0 0 (MQ below (gQ D none (w_1_2_11_12 q cI cJ cD Tn Ta Ua9) (gA q [1, 2, 11, 12])) ([.ref (q 11), .ref (q 1), .int p2] : List Value).toArray s 0 0 (gA q [1, 2, 11, 12])) (F0 m 7 ls []) := by
    intro n7
    induction n7 with
    | zero =>
      intro Ua x2 x3 x4 hf
      exact nomatch (show (none : Option (Nat → Int32)) = some Ua9 from hf)
    | succ n7 ih7 =>
      have J30 : ∀ (Ua : (Nat → Int32)) (x2 : Int32) (x3 : Int32) (x4 : Int32), fX7_putInOrder_J30 N Tn Ta (fX7_putInOrder_H7 N Tn Ta n7) Ua x2 x3 x4 = some Ua9 → ∀ (H : Heap) (locs : List Loc), va_P D vwCl (w_1_2_11_12 q cI cJ cD Tn Ta Ua) H → va_S (gA q [1, 2, 11, 12]) s.heap H locs → ∀ ls : Array Slot, lv_has ls 5 [(0, .ref (q 11)), (1, .ref (q 1)), (2, .int x2), (3, .int x3), (4, .int x4)] → W p l e (headSpec wsX7_putInOrder rX7_putInOrder).room s m ([.ref (q 11), .ref (q 1), .int p2] : List Value).toArray below meth c H locs 0 0 (MQ below (gQ D none (w_1_2_11_12 q cI cJ cD Tn Ta Ua9) (gA q [1, 2, 11, 12])) ([.ref (q 11), .ref (q 1), .int p2] : List Value).toArray s 0 0 (gA q [1, 2, 11, 12])) (F0 m 30 ls []) := by
        intro Ua x2 x3 x4 hf H locs hP hS ls hl
        unfold fX7_putInOrder_J30 at hf
        refine lv_iinc (v := (x4 + 1)) (lv' := [(4, .int (x4 + 1)), (0, .ref (q 11)), (1, .ref (q 1)), (2, .int x2), (3, .int x3)]) hx hb dX7_putInOrder_30 hl (k := 4) rfl rfl (by decide) rfl (fun ls hl => ?_)
        refine lv_goto (tgt := 7) hx hb dX7_putInOrder_33 (by decide) ?_
        exact ih7 Ua x2 x3 (x4 + 1) hf _ _ hP hS _ (lv_sub hl [1, 2, 3, 4, 0] rfl)
      intro Ua x2 x3 x4 hf H locs hP hS ls hl
      have hf : fX7_putInOrder_B7 N Tn Ta (fX7_putInOrder_H7 N Tn Ta n7) Ua x2 x3 x4 = some Ua9 := hf
      unfold fX7_putInOrder_B7 at hf
      refine lv_iload hx hb dX7_putInOrder_7 (lv_at hl 4 rfl) ?_
      refine lv_aload_n hx hb dX7_putInOrder_9 rfl (lv_at hl 1 rfl) ?_
      obtain ⟨r10, hc, hf⟩ := bn_some hf
      try dsimp only at hf
      refine g_call0 (ws' := (w_1_2_11_12 q cI cJ cD Tn Ta Ua)) (st1 := [.int r10, .int x4]) hq [1, 2, 11, 12] [1] [.inl 0, .inr 1, .inr 2, .inr 3] (va_runV (As := []) (rest := [.int x4]) ⟨hx, hb, hml, hown, hts⟩ (kX2_count l D cI cJ cD q hq N Tn r10 hc) (cwV 0 hts gX7_putInOrder_X2_count rfl rfl rfl (by decide +kernel) ⟨(Nat.le_of_ble_eq_true rfl), (Nat.le_of_ble_eq_true rfl)⟩) ⟨gP_blind, va_recv hE.1 hP (ci := 2) (q0 := 0) rfl rfl, fun U hU hW => ⟨rfl, by rw [hU]; exact hP.sub (ws' := (w_1 q cI cJ cD Tn)) [0] rfl, gEv.warm hW hE⟩⟩ rfl rfl hl.1 rfl (lv_room (Nat.le_of_ble_eq_true rfl)) dX7_putInOrder_10 ⟨Nat.zero_le _, Nat.zero_le _⟩) hP hS (gSub rfl) rfl rfl rfl rfl rfl (fun H locs hP hS => ?_)
      refine lv_icmp_ge (tgt := 36) hx hb dX7_putInOrder_13 (by decide) (fun c_3 => ?_) (fun c_3 => ?_)
      · have hf := (if_pos c_3).symm.trans hf
        exact J36 Ua x2 x3 hf _ _ hP hS _ (lv_sub hl [0, 1, 2, 3] rfl)
      · have hf := (if_neg c_3).symm.trans hf
        refine lv_aload_n hx hb dX7_putInOrder_16 rfl (lv_at hl 0 rfl) ?_
        refine lv_aload_n hx hb dX7_putInOrder_17 rfl (lv_at hl 1 rfl) ?_
        refine lv_iload hx hb dX7_putInOrder_18 (lv_at hl 4 rfl) ?_
        refine lv_iload_n hx hb dX7_putInOrder_20 rfl (lv_at hl 2 rfl) ?_
        obtain ⟨r21, hc, hf⟩ := bn_some hf
        try dsimp only at hf
        refine g_call0 (ws' := (w_1_2_11_12 q cI cJ cD Tn Ta Ua)) (st1 := [.int r21]) hq [1, 2, 11, 12] [1, 2, 11, 12] [.inl 0, .inl 1, .inl 2, .inl 3] (va_runV (As := [.ref (q 1), .int x4, .int x2]) (rest := []) ⟨hx, hb, hml, hown, hts⟩ (kX7_isLess l D cI cJ cD q hq N Tn Ta Ua x4 x2 r21 hc) (cwV 3 hts gX7_putInOrder_X7_isLess rfl rfl rfl (by decide +kernel) ⟨(Nat.le_of_ble_eq_true rfl), (Nat.le_of_ble_eq_true rfl)⟩) ⟨gP_blind, va_recv hE.1 hP (ci := 5) (q0 := 2) rfl rfl, fun U hU hW => ⟨rfl, by rw [hU]; exact hP.sub (ws' := (w_1_2_11_12 q cI cJ cD Tn Ta Ua)) [0, 1, 2, 3] rfl, gEv.warm hW hE⟩⟩ rfl rfl hl.1 rfl (lv_room (Nat.le_of_ble_eq_true rfl)) dX7_putInOrder_21 ⟨Nat.zero_le _, Nat.zero_le _⟩) hP hS (gSub rfl) rfl rfl rfl rfl rfl (fun H locs hP hS => ?_)
        refine lv_if_eq (tgt := 30) hx hb dX7_putInOrder_24 (by decide) (fun c_4 => ?_) (fun c_4 => ?_)
        · have hf := (if_pos c_4).symm.trans hf
          exact J30 Ua x2 x3 x4 hf _ _ hP hS _ (lv_sub hl [0, 1, 2, 3, 4] rfl)
        · have hf := (if_neg c_4).symm.trans hf
          refine lv_iinc (v := (x3 + 1)) (lv' := [(3, .int (x3 + 1)), (0, .ref (q 11)), (1, .ref (q 1)), (2, .int x2), (4, .int x4)]) hx hb dX7_putInOrder_27 hl (k := 3) rfl rfl (by decide) rfl (fun ls hl => ?_)
          exact J30 Ua x2 (x3 + 1) x4 hf _ _ hP hS _ (lv_sub hl [1, 2, 3, 0, 4] rfl)
  unfold fX7_putInOrder at hf
  refine lv_iconst (v := (0 : Int32)) hx hb dX7_putInOrder_0 (by decide) ?_
  refine lv_istore_n (lv' := [(3, .int (0 : Int32)), (0, .ref (q 11)), (1, .ref (q 1)), (2, .int p2)]) hx hb dX7_putInOrder_1 rfl hl (by decide) rfl (fun ls hl => ?_)
  refine lv_iload_n hx hb dX7_putInOrder_2 rfl (lv_at hl 3 rfl) ?_
  refine lv_iconst (v := (1 : Int32)) hx hb dX7_putInOrder_3 (by decide) ?_
  refine lv_iadd hx hb dX7_putInOrder_4 ?_
  refine lv_istore (lv' := [(4, .int (p2 + (1 : Int32))), (3, .int (0 : Int32)), (0, .ref (q 11)), (1, .ref (q 1)), (2, .int p2)]) hx hb dX7_putInOrder_5 hl (by decide) rfl (fun ls hl => ?_)
  exact K7 N Ua p2 (0 : Int32) (p2 + (1 : Int32)) hf _ _ hP hS _ (lv_sub hl [2, 3, 4, 1, 0] rfl)
set_option maxHeartbeats 4000000 in
set_option maxRecDepth 100000 in
theorem kX7_find (l : Launch) (D : va_G) (cI cJ cD : ClassId) (q : Nat → Nat) (hq : gInj 14 q) (N : Nat) (Tn : Int32) (Ta : (Nat → Int32)) (Ua : (Nat → Int32)) (Ua9 : (Nat → Int32)) (hf : fX7_find N Tn Ta Ua = some Ua9) : Met l yX7_find wsX7_find rX7_find (gP D cI cJ cD [.ref (q 11), .ref (q 1)] (w_1_2_11_12 q cI cJ cD Tn Ta Ua)) (gQ D none (w_1_2_11_12 q cI cJ cD Tn Ta Ua9) (gA q [1, 2, 11, 12])) 0 0 (gA q [1, 2, 11, 12]) := by
  refine Met.ofW (cc := cX7_find) (maxL := 3) (ret := none) (by decide +kernel) rfl ?_
  intro p e s m args below meth c s₁ B hml hv
  obtain ⟨rfl, hP, hE⟩ := hv
  have hx := B.exec
  have hb := B.bytes
  have hr := B.returns
  have hts := atoms_spec (ws := wsX7_find) B.pre
  have hown : s.vm.findClass RX7 = some m.cls := findClass_of_methodNamed B.named
  have hlocks := B.notSynchronized
  have hS : va_S (gA q [1, 2, 11, 12]) s.heap s.heap [] := va_S.rf
  have hl := lv_entry ([.ref (q 11), .ref (q 1)]) (n := 3) (Nat.le_of_ble_eq_true rfl)
  rw [lg_entry_eq]
  generalize (lg_sl ([.ref (q 11), .ref (q 1)]) ++ List.replicate (3 - (lg_sl ([.ref (q 11), .ref (q 1)])).length) Slot.unset).toArray = ls at hl ⊢
  have hl : lv_has ls 3 [(0, .ref (q 11)), (1, .ref (q 1))] := hl
  have hk9 := hts (.fieldLink RX7 9 "LyndonText$Suffixes" "ranks" "[I") (by decide +kernel)
  have huX7 : ∀ w ∈ u_ws RX7 TX7 1, w ∈ wsX7_find := by decide +kernel
  have J35 : ∀ (Ua : (Nat → Int32)), fX7_find_J35 N Tn Ta Ua = some Ua9 → ∀ (H : Heap) (locs : List Loc), va_P D vwCl (w_1_2_11_12 q cI cJ cD Tn Ta Ua) H → va_S (gA q [1, 2, 11, 12]) s.heap H locs → ∀ ls : Array Slot, lv_has ls 3 [] → W p l e (headSpec wsX7_find rX7_find).room s m ([.ref (q 11), .ref (q 1)] : List Value).toArray below meth c H locs 0 0 (MQ below (gQ D none (w_1_2_11_12 q cI cJ cD Tn Ta Ua9) (gA q [1, 2, 11, 12])) ([.ref (q 11), .ref (q 1)] : List Value).toArray s 0 0 (gA q [1, 2, 11, 12])) (F0 m 35 ls []) := by
    intro Ua hf H locs hP hS ls hl
    unfold fX7_find_J35 at hf
    cases hf
    exact W.vret hx hb hr (fun t ht hW => ⟨⟨rfl, by rw [ht]; exact hP⟩, hS.F ht⟩) hS.2.2 dX7_find_35
  have K19 : ∀ (n19 : Nat) (Ua : (Nat → Int32)) (x2 : Int32), fX7_find_H19 N Tn Ta n19 Ua x2 = some Ua9 → ∀ (H : Heap) (locs : List Loc), va_P D vwCl (w_1_2_11_12 q cI cJ cD Tn Ta Ua) H → va_S (gA q [1, 2, 11, 12]) s.heap H locs → ∀ ls : Array Slot, lv_has ls 3 [(0, .ref (q 11)), (1, .ref (q 1)), (2, .int x2)] → W p l e (headSpec wsX7_find rX7_find).room s m ([.ref (q 11), .ref (q 1)] : List Value).toArray below meth c H locs 0 0 (MQ below (gQ D none (w_1_2_11_12 q cI cJ cD Tn Ta Ua9) (gA q [1, 2, 11, 12])) ([.ref (q 11), .ref (q 1)] : List Value).toArray s 0 0 (gA q [1, 2, 11, 12])) (F0 m 19 ls []) := by
    intro n19
    induction n19 with
    | zero =>
      intro Ua x2 hf
      exact nomatch (show (none : Option (Nat → Int32)) = some Ua9 from hf)
    | succ n19 ih19 =>
      intro Ua x2 hf H locs hP hS ls hl
      have hf : fX7_find_B19 N Tn Ta (fX7_find_H19 N Tn Ta n19) Ua x2 = some Ua9 := hf
      unfold fX7_find_B19 at hf
      refine lv_iload_n hx hb dX7_find_19 rfl (lv_at hl 2 rfl) ?_
      refine lv_if_lt (tgt := 35) hx hb dX7_find_20 (by decide) (fun c_1 => ?_) (fun c_1 => ?_)
      · have hf := (if_pos c_1).symm.trans hf
        exact J35 Ua hf _ _ hP hS _ (lv_sub hl [] rfl)
      · have hf := (if_neg c_1).symm.trans hf
        refine lv_aload_n hx hb dX7_find_23 rfl (lv_at hl 0 rfl) ?_
        refine lv_aload_n hx hb dX7_find_24 rfl (lv_at hl 1 rfl) ?_
        refine lv_iload_n hx hb dX7_find_25 rfl (lv_at hl 2 rfl) ?_
        obtain ⟨Ua26, hc, hf⟩ := bn_some hf
        try dsimp only at hf
        refine g_call0 (ws' := (w_1_2_11_12 q cI cJ cD Tn Ta Ua26)) (st1 := []) hq [1, 2, 11, 12] [1, 2, 11, 12] [.inl 0, .inl 1, .inl 2, .inl 3] (va_runV (As := [.ref (q 1), .int x2]) (rest := []) ⟨hx, hb, hml, hown, hts⟩ (kX7_putInOrder l D cI cJ cD q hq N Tn Ta Ua x2 Ua26 hc) (cwV 2 hts gX7_find_X7_putInOrder rfl rfl rfl (by decide +kernel) ⟨(Nat.le_of_ble_eq_true rfl), (Nat.le_of_ble_eq_true rfl)⟩) ⟨gP_blind, va_recv hE.1 hP (ci := 5) (q0 := 2) rfl rfl, fun U hU hW => ⟨rfl, by rw [hU]; exact hP.sub (ws' := (w_1_2_11_12 q cI cJ cD Tn Ta Ua)) [0, 1, 2, 3] rfl, gEv.warm hW hE⟩⟩ rfl rfl hl.1 rfl (lv_room (Nat.le_of_ble_eq_true rfl)) dX7_find_26 ⟨Nat.zero_le _, Nat.zero_le _⟩) hP hS (gSub rfl) rfl rfl rfl rfl rfl (fun H locs hP hS => ?_)
        refine lv_iinc (v := (x2 + (-1 : Int32))) (lv' := [(2, .int (x2 + (-1 : Int32))), (0, .ref (q 11)), (1, .ref (q 1))]) hx hb dX7_find_29 hl (k := 2) rfl rfl (by decide) rfl (fun ls hl => ?_)
        refine lv_goto (tgt := 19) hx hb dX7_find_32 (by decide) ?_
        exact ih19 Ua26 (x2 + (-1 : Int32)) hf _ _ hP hS _ (lv_sub hl [1, 2, 0] rfl)
  unfold fX7_find at hf
  refine lv_aload_n hx hb dX7_find_0 rfl (lv_at hl 0 rfl) ?_
  refine va_get (D := D) (ci := 5) (v := .ref (q 12)) (C := RX7) (T := TX7) (N := 1) hx hb hts huX7 hown hE.1 hP 2 rfl rfl 0 (by decide) hk9 (fun _ h9 => h9) rfl dX7_find_1 ?_
  refine lv_aload_n hx hb dX7_find_4 rfl (lv_at hl 1 rfl) ?_
  obtain ⟨r5, hc, hf⟩ := bn_some hf
  try dsimp only at hf
  refine g_call0 (ws' := (w_1_2_11_12 q cI cJ cD Tn Ta Ua)) (st1 := [.int r5, .ref (q 12)]) hq [1, 2, 11, 12] [1] [.inl 0, .inr 1, .inr 2, .inr 3] (va_runV (As := []) (rest := [.ref (q 12)]) ⟨hx, hb, hml, hown, hts⟩ (kX2_count l D cI cJ cD q hq N Tn r5 hc) (cwV 0 hts gX7_find_X2_count rfl rfl rfl (by decide +kernel) ⟨(Nat.le_of_ble_eq_true rfl), (Nat.le_of_ble_eq_true rfl)⟩) ⟨gP_blind, va_recv hE.1 hP (ci := 2) (q0 := 0) rfl rfl, fun U hU hW => ⟨rfl, by rw [hU]; exact hP.sub (ws' := (w_1 q cI cJ cD Tn)) [0] rfl, gEv.warm hW hE⟩⟩ rfl rfl hl.1 rfl (lv_room (Nat.le_of_ble_eq_true rfl)) dX7_find_5 ⟨Nat.zero_le _, Nat.zero_le _⟩) hP hS (gSub rfl) rfl rfl rfl rfl rfl (fun H locs hP hS => ?_)
  refine lv_iconst (v := (-1 : Int32)) hx hb dX7_find_8 (by decide) ?_
  obtain ⟨g9, hc, hf⟩ := bn_some hf
  try dsimp only at hf
  refine g_call0 (ws' := (w_1_2_11_12 q cI cJ cD Tn Ta g9)) (st1 := []) hq [1, 2, 11, 12] [12] [.inr 0, .inr 1, .inr 2, .inl 0] (va_runSN (As := [.ref (q 12), .int r5, .int (-1 : Int32)]) (rest := []) ⟨hx, hb, hml, hown, hts⟩ (kX8_put l D cI cJ cD q hq 12 (by decide) N 65 Ua r5 (-1 : Int32) g9 hc) ⟨va_cnB (host := RX8) 3 hts gX7_find_X8_put_n25 rfl rfl rfl (hE.2 (.methodLinkNest RX7 25 yX8_put RX8) (by decide +kernel)) (hts (.initialized RX8) (by decide +kernel)) (by decide +kernel) ⟨(Nat.le_of_ble_eq_true rfl), (Nat.le_of_ble_eq_true rfl)⟩, hts (.static yX8_put) (by decide +kernel), trivial⟩ ⟨gP_blind, fun U hU hW => ⟨rfl, by rw [hU]; exact hP.sub (ws' := (w_G q cI 12 65 Ua)) [3] rfl, gEv.warm hW hE⟩⟩ rfl rfl hl.1 rfl (lv_room (Nat.le_of_ble_eq_true rfl)) dX7_find_9 ⟨Nat.zero_le _, Nat.zero_le _⟩) hP hS (gSub rfl) rfl rfl rfl rfl rfl (fun H locs hP hS => ?_)
  refine lv_aload_n hx hb dX7_find_12 rfl (lv_at hl 1 rfl) ?_
  obtain ⟨r13, hc, hf⟩ := bn_some hf
  try dsimp only at hf
  refine g_call0 (ws' := (w_1_2_11_12 q cI cJ cD Tn Ta g9)) (st1 := [.int r13]) hq [1, 2, 11, 12] [1] [.inl 0, .inr 1, .inr 2, .inr 3] (va_runV (As := []) (rest := []) ⟨hx, hb, hml, hown, hts⟩ (kX2_count l D cI cJ cD q hq N Tn r13 hc) (cwV 0 hts gX7_find_X2_count rfl rfl rfl (by decide +kernel) ⟨(Nat.le_of_ble_eq_true rfl), (Nat.le_of_ble_eq_true rfl)⟩) ⟨gP_blind, va_recv hE.1 hP (ci := 2) (q0 := 0) rfl rfl, fun U hU hW => ⟨rfl, by rw [hU]; exact hP.sub (ws' := (w_1 q cI cJ cD Tn)) [0] rfl, gEv.warm hW hE⟩⟩ rfl rfl hl.1 rfl (lv_room (Nat.le_of_ble_eq_true rfl)) dX7_find_13 ⟨Nat.zero_le _, Nat.zero_le _⟩) hP hS (gSub rfl) rfl rfl rfl rfl rfl (fun H locs hP hS => ?_)
  refine lv_iconst (v := (1 : Int32)) hx hb dX7_find_16 (by decide) ?_
  refine lv_isub hx hb dX7_find_17 ?_
  refine lv_istore_n (lv' := [(2, .int (r13 - (1 : Int32))), (0, .ref (q 11)), (1, .ref (q 1))]) hx hb dX7_find_18 rfl hl (by decide) rfl (fun ls hl => ?_)
  exact K19 N g9 (r13 - (1 : Int32)) hf _ _ hP hS _ (lv_sub hl [1, 2, 0] rfl)
set_option maxHeartbeats 4000000 in
set_option maxRecDepth 100000 in
theorem kX7_rank (l : Launch) (D : va_G) (cI cJ cD : ClassId) (q : Nat → Nat) (hq : gInj 14 q) (N : Nat) (Ua : (Nat → Int32)) (p1 : Int32) (r0 : Int32) (hf : fX7_rank N Ua p1 = some r0) : Met l yX7_rank wsX7_rank rX7_rank (gP D cI cJ cD [.ref (q 11), .int p1] (w_11_12 q cI cJ cD Ua)) (gQ D (some (.int r0)) (w_11_12 q cI cJ cD Ua) (gA q [11, 12])) 0 0 (gA q [11, 12]) := by
  refine Met.ofW (cc := cX7_rank) (maxL := 2) (ret := (some .int)) (by decide +kernel) rfl ?_
  intro p e s m args below meth c s₁ B hml hv
  obtain ⟨rfl, hP, hE⟩ := hv
  have hx := B.exec
  have hb := B.bytes
  have hr := B.returns
  have hts := atoms_spec (ws := wsX7_rank) B.pre
  have hown : s.vm.findClass RX7 = some m.cls := findClass_of_methodNamed B.named
  have hlocks := B.notSynchronized
  have hS : va_S (gA q [11, 12]) s.heap s.heap [] := va_S.rf
  have hl := lv_entry ([.ref (q 11), .int p1]) (n := 2) (Nat.le_of_ble_eq_true rfl)
  rw [lg_entry_eq]
  generalize (lg_sl ([.ref (q 11), .int p1]) ++ List.replicate (2 - (lg_sl ([.ref (q 11), .int p1])).length) Slot.unset).toArray = ls at hl ⊢
  have hl : lv_has ls 2 [(0, .ref (q 11)), (1, .int p1)] := hl
  have hk9 := hts (.fieldLink RX7 9 "LyndonText$Suffixes" "ranks" "[I") (by decide +kernel)
  have huX7 : ∀ w ∈ u_ws RX7 TX7 1, w ∈ wsX7_rank := by decide +kernel
  unfold fX7_rank at hf
  refine lv_aload_n hx hb dX7_rank_0 rfl (lv_at hl 0 rfl) ?_
  refine va_get (D := D) (ci := 5) (v := .ref (q 12)) (C := RX7) (T := TX7) (N := 1) hx hb hts huX7 hown hE.1 hP 0 rfl rfl 0 (by decide) hk9 (fun _ h9 => h9) rfl dX7_rank_1 ?_
  refine lv_iload_n hx hb dX7_rank_4 rfl (lv_at hl 1 rfl) ?_
  obtain ⟨r5, hc, hf⟩ := bn_some hf
  try dsimp only at hf
  refine g_call0 (ws' := (w_11_12 q cI cJ cD Ua)) (st1 := [.int r5]) hq [11, 12] [12] [.inr 0, .inl 0] (va_runSN (As := [.ref (q 12), .int p1]) (rest := []) ⟨hx, hb, hml, hown, hts⟩ (kX8_at l D cI cJ cD q hq 12 (by decide) N 65 Ua p1 r5 hc) ⟨va_cnB (host := RX8) 2 hts gX7_rank_X8_at_n15 rfl rfl rfl (hE.2 (.methodLinkNest RX7 15 yX8_at RX8) (by decide +kernel)) (hts (.initialized RX8) (by decide +kernel)) (by decide +kernel) ⟨(Nat.le_of_ble_eq_true rfl), (Nat.le_of_ble_eq_true rfl)⟩, hts (.static yX8_at) (by decide +kernel), trivial⟩ ⟨gP_blind, fun U hU hW => ⟨rfl, by rw [hU]; exact hP.sub (ws' := (w_G q cI 12 65 Ua)) [1] rfl, gEv.warm hW hE⟩⟩ rfl rfl hl.1 rfl (lv_room (Nat.le_of_ble_eq_true rfl)) dX7_rank_5 ⟨Nat.zero_le _, Nat.zero_le _⟩) hP hS (gSub rfl) rfl rfl rfl rfl rfl (fun H locs hP hS => ?_)
  cases hf
  exact W.iret hx hb hr (fun t ht hW => ⟨⟨rfl, by rw [ht]; exact hP⟩, hS.F ht⟩) hS.2.2 dX7_rank_8
