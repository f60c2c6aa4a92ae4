set_option maxHeartbeats 4000000 in
set_option maxRecDepth 100000 in
theorem kJ6_compare_7cf53 (l : Launch) (D : va_G) (cI cJ cD : ClassId) (q : Nat → Nat) (hq : gInj 14 q) (N : Nat) (p0 : Int32) (p1 : Int32) (r0 : Int32) (hf : fJ6_compare_7cf53 N p0 p1 = some r0) : Met l yJ6_compare_7cf53 wsJ6_compare_7cf53 rJ6_compare_7cf53 (gP D cI cJ cD [.int p0, .int p1] (w_0none q cI cJ cD)) (gQ D (some (.int r0)) (w_0none q cI cJ cD) (gA q [])) 0 0 (gA q []) := by
  refine Met.ofW (cc := cJ6_compare_7cf53) (maxL := 2) (ret := (some .int)) (by decide +kernel) rfl ?_
  intro p e s m args below meth c s₁ B hml hv
  obtain ⟨rfl, hP, hE⟩ := hv
  have hx := B.exec
  have hb := B.bytes
  have hr := B.returns
  have hts := atoms_spec (ws := wsJ6_compare_7cf53) B.pre
  have hown : s.vm.findClass RJ6 = some m.cls := findClass_of_methodNamed B.named
  have hlocks := B.notSynchronized
  have hS : va_S (gA q []) s.heap s.heap [] := va_S.rf
  have hl := lv_entry ([.int p0, .int p1]) (n := 2) (Nat.le_of_ble_eq_true rfl)
  rw [lg_entry_eq]
  generalize (lg_sl ([.int p0, .int p1]) ++ List.replicate (2 - (lg_sl ([.int p0, .int p1])).length) Slot.unset).toArray = ls at hl ⊢
  have hl : lv_has ls 2 [(0, .int p0), (1, .int p1)] := hl
  have J19 : ∀ (y0 : Int32), fJ6_compare_7cf53_J19 N y0 = some r0 → ∀ (H : Heap) (locs : List Loc), va_P D vwCl (w_0none q cI cJ cD) H → va_S (gA q []) s.heap H locs → ∀ ls : Array Slot, lv_has ls 2 [] → W p l e (headSpec wsJ6_compare_7cf53 rJ6_compare_7cf53).room s m ([.int p0, .int p1] : List Value).toArray below meth c H locs 0 0 (MQ below (gQ D (some (.int r0)) (w_0none q cI cJ cD) (gA q [])) ([.int p0, .int p1] : List Value).toArray s 0 0 (gA q [])) (F0 m 19 ls [.int y0]) := by
    intro y0 hf H locs hP hS ls hl
    unfold fJ6_compare_7cf53_J19 at hf
    cases hf
    exact W.iret hx hb hr (fun t ht hW => ⟨⟨rfl, by rw [ht]; exact hP⟩, hS.F ht⟩) hS.2.2 dJ6_compare_7cf53_19
  unfold fJ6_compare_7cf53 at hf
  refine lv_iload_n hx hb dJ6_compare_7cf53_0 rfl (lv_at hl 0 rfl) ?_
  refine lv_iload_n hx hb dJ6_compare_7cf53_1 rfl (lv_at hl 1 rfl) ?_
  refine lv_icmp_ge (tgt := 9) hx hb dJ6_compare_7cf53_2 (by decide) (fun c_1 => ?_) (fun c_1 => ?_)
  · have hf := (if_pos c_1).symm.trans hf
    refine lv_iload_n hx hb dJ6_compare_7cf53_9 rfl (lv_at hl 0 rfl) ?_
    refine lv_iload_n hx hb dJ6_compare_7cf53_10 rfl (lv_at hl 1 rfl) ?_
    refine lv_icmp_ne (tgt := 18) hx hb dJ6_compare_7cf53_11 (by decide) (fun c_2 => ?_) (fun c_2 => ?_)
    · have hf := (if_neg c_2).symm.trans hf
      refine lv_iconst (v := (1 : Int32)) hx hb dJ6_compare_7cf53_18 (by decide) ?_
      exact J19 (1 : Int32) hf _ _ hP hS _ (lv_sub hl [] rfl)
    · have hf := (if_pos c_2).symm.trans hf
      refine lv_iconst (v := (0 : Int32)) hx hb dJ6_compare_7cf53_14 (by decide) ?_
      refine lv_goto (tgt := 19) hx hb dJ6_compare_7cf53_15 (by decide) ?_
      exact J19 (0 : Int32) hf _ _ hP hS _ (lv_sub hl [] rfl)
  · have hf := (if_neg c_1).symm.trans hf
    refine lv_iconst (v := (-1 : Int32)) hx hb dJ6_compare_7cf53_5 (by decide) ?_
    refine lv_goto (tgt := 19) hx hb dJ6_compare_7cf53_6 (by decide) ?_
    exact J19 (-1 : Int32) hf _ _ hP hS _ (lv_sub hl [] rfl)
set_option maxHeartbeats 4000000 in
set_option maxRecDepth 100000 in
theorem kX8_checkArgument (l : Launch) (D : va_G) (cI cJ cD : ClassId) (q : Nat → Nat) (hq : gInj 14 q) (N : Nat) (p0 : Int32) (p1 : Int32) (p2 : Int32) (hf : fX8_checkArgument N p0 p1 p2 = some (.inr ())) : Met l yX8_checkArgument wsX8_checkArgument rX8_checkArgument (gP D cI cJ cD [.int p0, .int p1, .int p2] (w_0none q cI cJ cD)) (gQ D none (w_0none q cI cJ cD) (gA q [])) 0 0 (gA q []) := by
  refine Met.ofW (cc := cX8_checkArgument) (maxL := 3) (ret := none) (by decide +kernel) rfl ?_
  intro p e s m args below meth c s₁ B hml hv
  obtain ⟨rfl, hP, hE⟩ := hv
  have hx := B.exec
  have hb := B.bytes
  have hr := B.returns
  have hts := atoms_spec (ws := wsX8_checkArgument) B.pre
  have hown : s.vm.findClass RX8 = some m.cls := findClass_of_methodNamed B.named
  have hlocks := B.notSynchronized
  have hS : va_S (gA q []) s.heap s.heap [] := va_S.rf
  have hl := lv_entry ([.int p0, .int p1, .int p2]) (n := 3) (Nat.le_of_ble_eq_true rfl)
  rw [lg_entry_eq]
  generalize (lg_sl ([.int p0, .int p1, .int p2]) ++ List.replicate (3 - (lg_sl ([.int p0, .int p1, .int p2])).length) Slot.unset).toArray = ls at hl ⊢
  have hl : lv_has ls 3 [(0, .int p0), (1, .int p1), (2, .int p2)] := hl
  have J10 : ∀ (_ : Unit), fX8_checkArgument_J10 N = some (.inr ()) → ∀ (H : Heap) (locs : List Loc), va_P D vwCl (w_0none q cI cJ cD) H → va_S (gA q []) s.heap H locs → ∀ ls : Array Slot, lv_has ls 3 [] → W p l e (headSpec wsX8_checkArgument rX8_checkArgument).room s m ([.int p0, .int p1, .int p2] : List Value).toArray below meth c H locs 0 0 (MQ below (gQ D none (w_0none q cI cJ cD) (gA q [])) ([.int p0, .int p1, .int p2] : List Value).toArray s 0 0 (gA q [])) (F0 m 10 ls []) := by
    intro _ hf H locs hP hS ls hl
    unfold fX8_checkArgument_J10 at hf
    exact nomatch hf
  unfold fX8_checkArgument at hf
  refine lv_iload_n hx hb dX8_checkArgument_0 rfl (lv_at hl 0 rfl) ?_
  refine lv_iload_n hx hb dX8_checkArgument_1 rfl (lv_at hl 1 rfl) ?_
  refine lv_icmp_lt (tgt := 10) hx hb dX8_checkArgument_2 (by decide) (fun c_1 => ?_) (fun c_1 => ?_)
  · have hf := (if_pos c_1).symm.trans hf
    exact J10 () hf _ _ hP hS _ (lv_sub hl [] rfl)
  · have hf := (if_neg c_1).symm.trans hf
    refine lv_iload_n hx hb dX8_checkArgument_5 rfl (lv_at hl 0 rfl) ?_
    refine lv_iload_n hx hb dX8_checkArgument_6 rfl (lv_at hl 2 rfl) ?_
    refine lv_icmp_le (tgt := 20) hx hb dX8_checkArgument_7 (by decide) (fun c_2 => ?_) (fun c_2 => ?_)
    · have hf := (if_pos c_2).symm.trans hf
      cases hf
      exact W.vret hx hb hr (fun t ht hW => ⟨⟨rfl, by rw [ht]; exact hP⟩, hS.F ht⟩) hS.2.2 dX8_checkArgument_20
    · have hf := (if_neg c_2).symm.trans hf
      exact J10 () hf _ _ hP hS _ (lv_sub hl [] rfl)
set_option maxHeartbeats 4000000 in
set_option maxRecDepth 100000 in
theorem kX8_checkArgumentx (l : Launch) (hlt : l.stackTraces = false) (D : va_G) (cI cJ cD : ClassId) (sa : Nat → Nat) (q : Nat → Nat) (hq : gInj 14 q) (N : Nat) (p0 : Int32) (p1 : Int32) (p2 : Int32) (e0 : Nat) (hf : fX8_checkArgument N p0 p1 p2 = some (.inl e0)) : vx_Met l yX8_checkArgument wsX8_checkArgument rX8_checkArgumentx (gPx D cI cJ cD sa (gA q []) [.int p0, .int p1, .int p2] (w_0none q cI cJ cD)) (fun _ _ _ _ => False) (gX D (gEn e0) (w_0none q cI cJ cD) (gA q [])) 1 6 (gA q []) := by
  refine vx_ofW (cc := cX8_checkArgument) (maxL := 3) (ret := none) (by decide +kernel) rfl ?_
  intro p e s m args below meth c s₁ B hml htab hv
  obtain ⟨rfl, hP, hE, hXe⟩ := hv
  have hx := B.exec
  have hb := B.bytes
  have hr := B.returns
  have hts := atoms_spec (ws := wsX8_checkArgument) B.pre
  have hown : s.vm.findClass RX8 = some m.cls := findClass_of_methodNamed B.named
  have hlocks := B.notSynchronized
  have hS : va_S (gA q []) s.heap s.heap [] := va_S.rf
  have hl := lv_entry ([.int p0, .int p1, .int p2]) (n := 3) (Nat.le_of_ble_eq_true rfl)
  rw [lg_entry_eq]
  generalize (lg_sl ([.int p0, .int p1, .int p2]) ++ List.replicate (3 - (lg_sl ([.int p0, .int p1, .int p2])).length) Slot.unset).toArray = ls at hl ⊢
  have hl : lv_has ls 3 [(0, .int p0), (1, .int p1), (2, .int p2)] := hl
  have J10 : ∀ (_ : Unit), fX8_checkArgument_J10 N = some (.inl e0) → ∀ (H : Heap) (locs : List Loc), va_P D vwCl (w_0none q cI cJ cD) H → va_S (gA q []) s.heap H locs → ∀ ls : Array Slot, lv_has ls 3 [] → W p l e (headSpec wsX8_checkArgument rX8_checkArgumentx).room s m ([.int p0, .int p1, .int p2] : List Value).toArray below meth c H locs 0 0 (vx_MQ below (fun _ _ _ _ => False) (gX D (gEn e0) (w_0none q cI cJ cD) (gA q [])) ([.int p0, .int p1, .int p2] : List Value).toArray s 1 6 (gA q [])) (F0 m 10 ls []) := by
    intro _ hf H locs hP hS ls hl
    unfold fX8_checkArgument_J10 at hf
    cases hf
    exact vx_throwS (own := RX8) (cls := "java/lang/IllegalArgumentException") (text := "an argument is out of range") (names := ["java/lang/RuntimeException", "java/lang/Exception"]) (ik := 107) (is := 237) (ic := 111) (sa := sa 237) (A := (gA q [])) hx hb hlt hown (by decide +kernel) (by decide +kernel) (hts (.classLink RX8 107 "java/lang/IllegalArgumentException") (by decide +kernel)) (hts (.initialized "java/lang/IllegalArgumentException") (by decide +kernel)) (hXe.1.1 (237, "an argument is out of range") (by decide +kernel)) (vx_hat (B := gB "java/lang/IllegalArgumentException") (fun w h => hts w (gw_X8_checkArgument_10 w h)) (gwB_X8_checkArgument_10) (gB_ok hXe.1 (cls := "java/lang/IllegalArgumentException") (by decide +kernel))) (gwg_X8_checkArgument_10) hXe.2.1 hXe.2.2 hS (hl.1.trans hml.symm) dX8_checkArgument_10 dX8_checkArgument_13 dX8_checkArgument_14 dX8_checkArgument_16 dX8_checkArgument_19 (fun x9 hx9 => (htab x9 hx9).elim) (Nat.le_of_ble_eq_true rfl) (Nat.le_of_ble_eq_true rfl) (Nat.le_of_ble_eq_true rfl) (Nat.le_of_ble_eq_true rfl) hlocks (fun t hv hz hk => ⟨rfl, hP.kept (fun k9 x9 hx9 => hk x9.1 ((hP k9 x9 hx9).lt)), ⟨Nat.le_trans hS.1 hz, fun a9 h1 hn => (hk a9 (Nat.lt_of_lt_of_le h1 hS.1)).trans (hS.2.1 a9 h1 hn)⟩⟩) hS.2.2 (Nat.le_of_ble_eq_true rfl) (Nat.le_of_ble_eq_true rfl)
  unfold fX8_checkArgument at hf
  refine lv_iload_n hx hb dX8_checkArgument_0 rfl (lv_at hl 0 rfl) ?_
  refine lv_iload_n hx hb dX8_checkArgument_1 rfl (lv_at hl 1 rfl) ?_
  refine lv_icmp_lt (tgt := 10) hx hb dX8_checkArgument_2 (by decide) (fun c_1 => ?_) (fun c_1 => ?_)
  · have hf := (if_pos c_1).symm.trans hf
    exact J10 () hf _ _ hP hS _ (lv_sub hl [] rfl)
  · have hf := (if_neg c_1).symm.trans hf
    refine lv_iload_n hx hb dX8_checkArgument_5 rfl (lv_at hl 0 rfl) ?_
    refine lv_iload_n hx hb dX8_checkArgument_6 rfl (lv_at hl 2 rfl) ?_
    refine lv_icmp_le (tgt := 20) hx hb dX8_checkArgument_7 (by decide) (fun c_2 => ?_) (fun c_2 => ?_)
    · have hf := (if_pos c_2).symm.trans hf
      exact nomatch hf
    · have hf := (if_neg c_2).symm.trans hf
      exact J10 () hf _ _ hP hS _ (lv_sub hl [] rfl)
set_option maxHeartbeats 4000000 in
set_option maxRecDepth 100000 in
theorem kX2_count (l : Launch) (D : va_G) (cI cJ cD : ClassId) (q : Nat → Nat) (hq : gInj 14 q) (N : Nat) (Tn : Int32) (r0 : Int32) (hf : fX2_count N Tn = some r0) : Met l yX2_count wsX2_count rX2_count (gP D cI cJ cD [.ref (q 1)] (w_1 q cI cJ cD Tn)) (gQ D (some (.int r0)) (w_1 q cI cJ cD Tn) (gA q [1])) 0 0 (gA q [1]) := by
  refine Met.ofW (cc := cX2_count) (maxL := 1) (ret := (some .int)) (by decide +kernel) rfl ?_
  intro p e s m args below meth c s₁ B hml hv
  obtain ⟨rfl, hP, hE⟩ := hv
  have hx := B.exec
  have hb := B.bytes
  have hr := B.returns
  have hts := atoms_spec (ws := wsX2_count) B.pre
  have hown : s.vm.findClass RX2 = some m.cls := findClass_of_methodNamed B.named
  have hlocks := B.notSynchronized
  have hS : va_S (gA q [1]) s.heap s.heap [] := va_S.rf
  have hl := lv_entry ([.ref (q 1)]) (n := 1) (Nat.le_of_ble_eq_true rfl)
  rw [lg_entry_eq]
  generalize (lg_sl ([.ref (q 1)]) ++ List.replicate (1 - (lg_sl ([.ref (q 1)])).length) Slot.unset).toArray = ls at hl ⊢
  have hl : lv_has ls 1 [(0, .ref (q 1))] := hl
  have hk15 := hts (.fieldLink RX2 15 "LyndonText$Letters" "count" "I") (by decide +kernel)
  have huX2 : ∀ w ∈ u_ws RX2 TX2 2, w ∈ wsX2_count := by decide +kernel
  unfold fX2_count at hf
  refine lv_aload_n hx hb dX2_count_0 rfl (lv_at hl 0 rfl) ?_
  refine va_get (D := D) (ci := 2) (v := .int Tn) (C := RX2) (T := TX2) (N := 2) hx hb hts huX2 hown hE.1 hP 0 rfl rfl 1 (by decide) hk15 (fun _ h9 => h9) rfl dX2_count_1 ?_
  cases hf
  exact W.iret hx hb hr (fun t ht hW => ⟨⟨rfl, by rw [ht]; exact hP⟩, hS.F ht⟩) hS.2.2 dX2_count_4
set_option maxHeartbeats 4000000 in
set_option maxRecDepth 100000 in
theorem kX8_at (l : Launch) (D : va_G) (cI cJ cD : ClassId) (q : Nat → Nat) (hq : gInj 14 q) (gk : Nat) (hgk : gk < 14) (N : Nat) (gn : Nat) (gf : Nat → Int32) (p1 : Int32) (r0 : Int32) (hf : fX8_at N gn gf p1 = some r0) : Met l yX8_at wsX8_at rX8_at (gP D cI cJ cD [.ref (q gk), .int p1] (w_G q cI gk gn gf)) (gQ D (some (.int r0)) (w_G q cI gk gn gf) (gA q [gk])) 0 0 (gA q [gk]) := by
  refine Met.ofW (cc := cX8_at) (maxL := 2) (ret := (some .int)) (by decide +kernel) rfl ?_
  intro p e s m args below meth c s₁ B hml hv
  obtain ⟨rfl, hP, hE⟩ := hv
  have hx := B.exec
  have hb := B.bytes
  have hr := B.returns
  have hts := atoms_spec (ws := wsX8_at) B.pre
  have hown : s.vm.findClass RX8 = some m.cls := findClass_of_methodNamed B.named
  have hlocks := B.notSynchronized
  have hS : va_S (gA q [gk]) s.heap s.heap [] := va_S.rf
  have hl := lv_entry ([.ref (q gk), .int p1]) (n := 2) (Nat.le_of_ble_eq_true rfl)
  rw [lg_entry_eq]
  generalize (lg_sl ([.ref (q gk), .int p1]) ++ List.replicate (2 - (lg_sl ([.ref (q gk), .int p1])).length) Slot.unset).toArray = ls at hl ⊢
  have hl : lv_has ls 2 [(0, .ref (q gk)), (1, .int p1)] := hl
  have J17 : ∀ (y0 : Int32), fX8_at_J17 N gn gf y0 = some r0 → ∀ (H : Heap) (locs : List Loc), va_P D vwCl (w_G q cI gk gn gf) H → va_S (gA q [gk]) s.heap H locs → ∀ ls : Array Slot, lv_has ls 2 [] → W p l e (headSpec wsX8_at rX8_at).room s m ([.ref (q gk), .int p1] : List Value).toArray below meth c H locs 0 0 (MQ below (gQ D (some (.int r0)) (w_G q cI gk gn gf) (gA q [gk])) ([.ref (q gk), .int p1] : List Value).toArray s 0 0 (gA q [gk])) (F0 m 17 ls [.int y0]) := by
    intro y0 hf H locs hP hS ls hl
    unfold fX8_at_J17 at hf
    cases hf
    exact W.iret hx hb hr (fun t ht hW => ⟨⟨rfl, by rw [ht]; exact hP⟩, hS.F ht⟩) hS.2.2 dX8_at_17
  have J16 : ∀ (_ : Unit), fX8_at_J16 N gn gf = some r0 → ∀ (H : Heap) (locs : List Loc), va_P D vwCl (w_G q cI gk gn gf) H → va_S (gA q [gk]) s.heap H locs → ∀ ls : Array Slot, lv_has ls 2 [] → W p l e (headSpec wsX8_at rX8_at).room s m ([.ref (q gk), .int p1] : List Value).toArray below meth c H locs 0 0 (MQ below (gQ D (some (.int r0)) (w_G q cI gk gn gf) (gA q [gk])) ([.ref (q gk), .int p1] : List Value).toArray s 0 0 (gA q [gk])) (F0 m 16 ls []) := by
    intro _ hf H locs hP hS ls hl
    unfold fX8_at_J16 at hf
    refine lv_iconst (v := (0 : Int32)) hx hb dX8_at_16 (by decide) ?_
    exact J17 (0 : Int32) hf _ _ hP hS _ (lv_sub hl [] rfl)
  unfold fX8_at at hf
  refine lv_iload_n hx hb dX8_at_0 rfl (lv_at hl 1 rfl) ?_
  refine lv_if_lt (tgt := 16) hx hb dX8_at_1 (by decide) (fun c_1 => ?_) (fun c_1 => ?_)
  · have hf := (if_pos c_1).symm.trans hf
    exact J16 () hf _ _ hP hS _ (lv_sub hl [] rfl)
  · have hf := (if_neg c_1).symm.trans hf
    refine lv_iload_n hx hb dX8_at_4 rfl (lv_at hl 1 rfl) ?_
    refine lv_aload_n hx hb dX8_at_5 rfl (lv_at hl 0 rfl) ?_
    refine va_alen (v := (Int32.ofNat gn)) hx hb hE.1 hP 0 0 rfl rfl rfl dX8_at_6 ?_
    refine lv_icmp_ge (tgt := 16) hx hb dX8_at_7 (by decide) (fun c_2 => ?_) (fun c_2 => ?_)
    · have hf := (if_pos c_2).symm.trans hf
      exact J16 () hf _ _ hP hS _ (lv_sub hl [] rfl)
    · have hf := (if_neg c_2).symm.trans hf
      refine lv_aload_n hx hb dX8_at_10 rfl (lv_at hl 0 rfl) ?_
      refine lv_iload_n hx hb dX8_at_11 rfl (lv_at hl 1 rfl) ?_
      obtain ⟨g_3, hf⟩ := gd_some hf
      refine va_iald hx hb hE.1 hP 0 0 rfl rfl (inb_in g_3) dX8_at_12 ?_
      refine lv_goto (tgt := 17) hx hb dX8_at_13 (by decide) ?_
      exact J17 (gf (p1).toNatClampNeg) hf _ _ hP hS _ (lv_sub hl [] rfl)
set_option maxHeartbeats 4000000 in
set_option maxRecDepth 100000 in
theorem kX8_put (l : Launch) (D : va_G) (cI cJ cD : ClassId) (q : Nat → Nat) (hq : gInj 14 q) (gk : Nat) (hgk : gk < 14) (N : Nat) (gn : Nat) (gf : Nat → Int32) (p1 : Int32) (p2 : Int32) (gf9 : (Nat → Int32)) (hf : fX8_put N gn gf p1 p2 = some gf9) : Met l yX8_put wsX8_put rX8_put (gP D cI cJ cD [.ref (q gk), .int p1, .int p2] (w_G q cI gk gn gf)) (gQ D none (w_G q cI gk gn gf9) (gA q [gk])) 0 0 (gA q [gk]) := by
  refine Met.ofW (cc := cX8_put) (maxL := 3) (ret := none) (by decide +kernel) rfl ?_
  intro p e s m args below meth c s₁ B hml hv
  obtain ⟨rfl, hP, hE⟩ := hv
  have hx := B.exec
  have hb := B.bytes
  have hr := B.returns
  have hts := atoms_spec (ws := wsX8_put) B.pre
  have hown : s.vm.findClass RX8 = some m.cls := findClass_of_methodNamed B.named
  have hlocks := B.notSynchronized
  have hS : va_S (gA q [gk]) s.heap s.heap [] := va_S.rf
  have hl := lv_entry ([.ref (q gk), .int p1, .int p2]) (n := 3) (Nat.le_of_ble_eq_true rfl)
  rw [lg_entry_eq]
  generalize (lg_sl ([.ref (q gk), .int p1, .int p2]) ++ List.replicate (3 - (lg_sl ([.ref (q gk), .int p1, .int p2])).length) Slot.unset).toArray = ls at hl ⊢
  have hl : lv_has ls 3 [(0, .ref (q gk)), (1, .int p1), (2, .int p2)] := hl
  have hDm : ∀ g9 : Nat → Int32, va_D (gA q [gk]) (w_G q cI gk gn g9) := fun _ => gD_of hq [gk] rfl (by simp [hgk]) rfl (fun k h => ⟨k, h, rfl⟩)
  have J14 : ∀ (gf : (Nat → Int32)), fX8_put_J14 N gn gf = some gf9 → ∀ (H : Heap) (locs : List Loc), va_P D vwCl (w_G q cI gk gn gf) H → va_S (gA q [gk]) s.heap H locs → ∀ ls : Array Slot, lv_has ls 3 [] → W p l e (headSpec wsX8_put rX8_put).room s m ([.ref (q gk), .int p1, .int p2] : List Value).toArray below meth c H locs 0 0 (MQ below (gQ D none (w_G q cI gk gn gf9) (gA q [gk])) ([.ref (q gk), .int p1, .int p2] : List Value).toArray s 0 0 (gA q [gk])) (F0 m 14 ls []) := by
    intro gf hf H locs hP hS ls hl
    unfold fX8_put_J14 at hf
    cases hf
    exact W.vret hx hb hr (fun t ht hW => ⟨⟨rfl, by rw [ht]; exact hP⟩, hS.F ht⟩) hS.2.2 dX8_put_14
  unfold fX8_put at hf
  refine lv_iload_n hx hb dX8_put_0 rfl (lv_at hl 1 rfl) ?_
  refine lv_if_lt (tgt := 14) hx hb dX8_put_1 (by decide) (fun c_1 => ?_) (fun c_1 => ?_)
  · have hf := (if_pos c_1).symm.trans hf
    exact J14 gf hf _ _ hP hS _ (lv_sub hl [] rfl)
  · have hf := (if_neg c_1).symm.trans hf
    refine lv_iload_n hx hb dX8_put_4 rfl (lv_at hl 1 rfl) ?_
    refine lv_aload_n hx hb dX8_put_5 rfl (lv_at hl 0 rfl) ?_
    refine va_alen (v := (Int32.ofNat gn)) hx hb hE.1 hP 0 0 rfl rfl rfl dX8_put_6 ?_
    refine lv_icmp_ge (tgt := 14) hx hb dX8_put_7 (by decide) (fun c_2 => ?_) (fun c_2 => ?_)
    · have hf := (if_pos c_2).symm.trans hf
      exact J14 gf hf _ _ hP hS _ (lv_sub hl [] rfl)
    · have hf := (if_neg c_2).symm.trans hf
      refine lv_aload_n hx hb dX8_put_10 rfl (lv_at hl 0 rfl) ?_
      refine lv_iload_n hx hb dX8_put_11 rfl (lv_at hl 1 rfl) ?_
      refine lv_iload_n hx hb dX8_put_12 rfl (lv_at hl 2 rfl) ?_
      obtain ⟨g_3, hf⟩ := gd_some hf
      refine va_iast hx hb hE.1 hP (hDm gf) hS 0 0 rfl rfl (inb_in g_3) dX8_put_13 (fun H locs hP _ hS => ?_)
      have hP : va_P D vwCl (w_G q cI gk gn (upd gf (p1).toNatClampNeg p2)) H := hP
      exact J14 (upd gf (p1).toNatClampNeg p2) hf _ _ hP hS _ (lv_sub hl [] rfl)
set_option maxHeartbeats 4000000 in
set_option maxRecDepth 100000 in
theorem kX2_open (l : Launch) (D : va_G) (cI cJ cD : ClassId) (q : Nat → Nat) (hq : gInj 14 q) (N : Nat) (Tn : Int32) (Ta : (Nat → Int32)) (p1 : Int32) (p2 : Int32) (Tn9 : Int32) (Ta9 : (Nat → Int32)) (hf : fX2_open N Tn Ta p1 p2 = some (Tn9, Ta9)) : Met l yX2_open wsX2_open rX2_open (gP D cI cJ cD [.ref (q 1), .int p1, .int p2] (w_1_2 q cI cJ cD Tn Ta)) (gQ D none (w_1_2 q cI cJ cD Tn9 Ta9) (gA q [1, 2])) 0 0 (gA q [1, 2]) := by
  refine Met.ofW (cc := cX2_open) (maxL := 4) (ret := none) (by decide +kernel) rfl ?_
  intro p e s m args below meth c s₁ B hml hv
  obtain ⟨rfl, hP, hE⟩ := hv
  have hx := B.exec
  have hb := B.bytes
  have hr := B.returns
  have hts := atoms_spec (ws := wsX2_open) B.pre
  have hown : s.vm.findClass RX2 = some m.cls := findClass_of_methodNamed B.named
  have hlocks := B.notSynchronized
  have hS : va_S (gA q [1, 2]) s.heap s.heap [] := va_S.rf
  have hl := lv_entry ([.ref (q 1), .int p1, .int p2]) (n := 4) (Nat.le_of_ble_eq_true rfl)
  rw [lg_entry_eq]
  generalize (lg_sl ([.ref (q 1), .int p1, .int p2]) ++ List.replicate (4 - (lg_sl ([.ref (q 1), .int p1, .int p2])).length) Slot.unset).toArray = ls at hl ⊢
  have hl : lv_has ls 4 [(0, .ref (q 1)), (1, .int p1), (2, .int p2)] := hl
  have hDm : ∀ (z0 : Int32) (z1 : (Nat → Int32)), va_D (gA q [1, 2]) (w_1_2 q cI cJ cD z0 z1) := fun _ _ => gD_of hq [1, 2] rfl rfl rfl (fun k h => ⟨k, h, rfl⟩)
  have hk15 := hts (.fieldLink RX2 15 "LyndonText$Letters" "count" "I") (by decide +kernel)
  have hk9 := hts (.fieldLink RX2 9 "LyndonText$Letters" "row" "[I") (by decide +kernel)
  have huX2 : ∀ w ∈ u_ws RX2 TX2 2, w ∈ wsX2_open := by decide +kernel
  have J62 : ∀ (Tn : Int32) (Ta : (Nat → Int32)), fX2_open_J62 N Tn Ta = some (Tn9, Ta9) → ∀ (H : Heap) (locs : List Loc), va_P D vwCl (w_1_2 q cI cJ cD Tn Ta) H → va_S (gA q [1, 2]) s.heap H locs → ∀ ls : Array Slot, lv_has ls 4 [] → W p l e (headSpec wsX2_open rX2_open).room s m ([.ref (q 1), .int p1, .int p2] : List Value).toArray below meth c H locs 0 0 (MQ below (gQ D none (w_1_2 q cI cJ cD Tn9 Ta9) (gA q [1, 2])) ([.ref (q 1), .int p1, .int p2] : List Value).toArray s 0 0 (gA q [1, 2])) (F0 m 62 ls []) := by
    intro Tn Ta hf H locs hP hS ls hl
    unfold fX2_open_J62 at hf
    cases hf
    exact W.vret hx hb hr (fun t ht hW => ⟨⟨rfl, by rw [ht]; exact hP⟩, hS.F ht⟩) hS.2.2 dX2_open_62
  have J43 : ∀ (Tn : Int32) (Ta : (Nat → Int32)) (x1 : Int32) (x2 : Int32), fX2_open_J43 N Tn Ta x1 x2 = some (Tn9, Ta9) → ∀ (H : Heap) (locs : List Loc), va_P D vwCl (w_1_2 q cI cJ cD Tn Ta) H → va_S (gA q [1, 2]) s.heap H locs → ∀ ls : Array Slot, lv_has ls 4 [(0, .ref (q 1)), (1, .int x1), (2, .int x2)] → W p l e (headSpec wsX2_open rX2_open).room s m ([.ref (q 1), .int p1, .int p2] : List Value).toArray below meth c H locs 0 0 (MQ below (gQ D none (w_1_2 q cI cJ cD Tn9 Ta9) (gA q [1, 2])) ([.ref (q 1), .int p1, .int p2] : List Value).toArray s 0 0 (gA q [1, 2])) (F0 m 43 ls []) := by
    intro Tn Ta x1 x2 hf H locs hP hS ls hl
    unfold fX2_open_J43 at hf
    refine lv_aload_n hx hb dX2_open_43 rfl (lv_at hl 0 rfl) ?_
    refine va_get (D := D) (ci := 2) (v := .ref (q 2)) (C := RX2) (T := TX2) (N := 2) hx hb hts huX2 hown hE.1 hP 0 rfl rfl 0 (by decide) hk9 (fun _ h9 => h9) rfl dX2_open_44 ?_
    refine lv_iload_n hx hb dX2_open_47 rfl (lv_at hl 1 rfl) ?_
    refine lv_iload_n hx hb dX2_open_48 rfl (lv_at hl 2 rfl) ?_
    obtain ⟨g49, hc, hf⟩ := bn_some hf
    try dsimp only at hf
    refine g_call0 (ws' := (w_1_2 q cI cJ cD Tn g49)) (st1 := []) hq [1, 2] [2] [.inr 0, .inl 0] (va_runSN (As := [.ref (q 2), .int x1, .int x2]) (rest := []) ⟨hx, hb, hml, hown, hts⟩ (kX8_put l D cI cJ cD q hq 2 (by decide) N 64 Ta x1 x2 g49 hc) ⟨va_cnB (host := RX8) 3 hts gX2_open_X8_put_n23 rfl rfl rfl (hE.2 (.methodLinkNest RX2 23 yX8_put RX8) (by decide +kernel)) (hts (.initialized RX8) (by decide +kernel)) (by decide +kernel) ⟨(Nat.le_of_ble_eq_true rfl), (Nat.le_of_ble_eq_true rfl)⟩, hts (.static yX8_put) (by decide +kernel), trivial⟩ ⟨gP_blind, fun U hU hW => ⟨rfl, by rw [hU]; exact hP.sub (ws' := (w_G q cI 2 64 Ta)) [1] rfl, gEv.warm hW hE⟩⟩ rfl rfl hl.1 rfl (lv_room (Nat.le_of_ble_eq_true rfl)) dX2_open_49 ⟨Nat.zero_le _, Nat.zero_le _⟩) hP hS (gSub rfl) rfl rfl rfl rfl rfl (fun H locs hP hS => ?_)
    refine lv_aload_n hx hb dX2_open_52 rfl (lv_at hl 0 rfl) ?_
    refine lv_dup hx hb dX2_open_53 rfl ?_
    refine va_get (D := D) (ci := 2) (v := .int Tn) (C := RX2) (T := TX2) (N := 2) hx hb hts huX2 hown hE.1 hP 0 rfl rfl 1 (by decide) hk15 (fun _ h9 => h9) rfl dX2_open_54 ?_
    refine lv_iconst (v := (1 : Int32)) hx hb dX2_open_57 (by decide) ?_
    refine lv_iadd hx hb dX2_open_58 ?_
    refine va_put (D := D) (ci := 2) (v := .int (Tn + (1 : Int32))) (ty := .int) (C := RX2) (T := TX2) (N := 2) hx hb hts huX2 tyX2 tyX2_ok nmX2 hown hE.1 hP (hDm Tn g49) hS 0 rfl rfl 1 (by decide) hk15 (fun _ h9 => h9) rfl (by decide +kernel) rfl rfl (Nat.le_of_ble_eq_true rfl) dX2_open_59 (fun H locs hP _ hS => ?_)
    have hP : va_P D vwCl (w_1_2 q cI cJ cD (Tn + (1 : Int32)) g49) H := hP
    exact J62 (Tn + (1 : Int32)) g49 hf _ _ hP hS _ (lv_sub hl [] rfl)
  have K14 : ∀ (n14 : Nat) (Tn : Int32) (Ta : (Nat → Int32)) (x1 : Int32) (x2 : Int32) (x3 : Int32), fX2_open_H14 N n14 Tn Ta x1 x2 x3 = some (Tn9, Ta9) → ∀ (H : Heap) (locs : List Loc), va_P D vwCl (w_1_2 q cI cJ cD Tn Ta) H → va_S (gA q [1, 2]) s.heap H locs → ∀ ls : Array Slot, lv_has ls 4 [(0, .ref (q 1)), (1, .int x1), (2, .int x2), (3, .int x3)] → W p l e (headSpec wsX2_open rX2_open).room s m ([.ref (q 1), .int p1, .int p2] : List Value).toArray below meth c H locs 0 0 (MQ below (gQ D none (w_1_2 q cI cJ cD Tn9 Ta9) (gA q [1, 2])) ([.ref (q 1), .int p1, .int p2] : List Value).toArray s 0 0 (gA q [1, 2])) (F0 m 14 ls []) := by
    intro n14
    induction n14 with
    | zero =>
      intro Tn Ta x1 x2 x3 hf
      exact nomatch (show (none : Option (Int32 × (Nat → Int32))) = some (Tn9, Ta9) from hf)
    | succ n14 ih14 =>
      intro Tn Ta x1 x2 x3 hf H locs hP hS ls hl
      have hf : fX2_open_B14 N (fX2_open_H14 N n14) Tn Ta x1 x2 x3 = some (Tn9, Ta9) := hf
      unfold fX2_open_B14 at hf
      refine lv_iload_n hx hb dX2_open_14 rfl (lv_at hl 3 rfl) ?_
      refine lv_iload_n hx hb dX2_open_15 rfl (lv_at hl 1 rfl) ?_
      refine lv_icmp_le (tgt := 43) hx hb dX2_open_16 (by decide) (fun c_1 => ?_) (fun c_1 => ?_)
      · have hf := (if_pos c_1).symm.trans hf
        exact J43 Tn Ta x1 x2 hf _ _ hP hS _ (lv_sub hl [0, 1, 2] rfl)
      · have hf := (if_neg c_1).symm.trans hf
        refine lv_aload_n hx hb dX2_open_19 rfl (lv_at hl 0 rfl) ?_
        refine va_get (D := D) (ci := 2) (v := .ref (q 2)) (C := RX2) (T := TX2) (N := 2) hx hb hts huX2 hown hE.1 hP 0 rfl rfl 0 (by decide) hk9 (fun _ h9 => h9) rfl dX2_open_20 ?_
        refine lv_iload_n hx hb dX2_open_23 rfl (lv_at hl 3 rfl) ?_
        refine lv_aload_n hx hb dX2_open_24 rfl (lv_at hl 0 rfl) ?_
        refine va_get (D := D) (ci := 2) (v := .ref (q 2)) (C := RX2) (T := TX2) (N := 2) hx hb hts huX2 hown hE.1 hP 0 rfl rfl 0 (by decide) hk9 (fun _ h9 => h9) rfl dX2_open_25 ?_
        refine lv_iload_n hx hb dX2_open_28 rfl (lv_at hl 3 rfl) ?_
        refine lv_iconst (v := (1 : Int32)) hx hb dX2_open_29 (by decide) ?_
        refine lv_isub hx hb dX2_open_30 ?_
        obtain ⟨r31, hc, hf⟩ := bn_some hf
        try dsimp only at hf
        refine g_call0 (ws' := (w_1_2 q cI cJ cD Tn Ta)) (st1 := [.int r31, .int x3, .ref (q 2)]) hq [1, 2] [2] [.inr 0, .inl 0] (va_runSN (As := [.ref (q 2), .int (x3 - (1 : Int32))]) (rest := [.int x3, .ref (q 2)]) ⟨hx, hb, hml, hown, hts⟩ (kX8_at l D cI cJ cD q hq 2 (by decide) N 64 Ta (x3 - (1 : Int32)) r31 hc) ⟨va_cnB (host := RX8) 2 hts gX2_open_X8_at_n19 rfl rfl rfl (hE.2 (.methodLinkNest RX2 19 yX8_at RX8) (by decide +kernel)) (hts (.initialized RX8) (by decide +kernel)) (by decide +kernel) ⟨(Nat.le_of_ble_eq_true rfl), (Nat.le_of_ble_eq_true rfl)⟩, hts (.static yX8_at) (by decide +kernel), trivial⟩ ⟨gP_blind, fun U hU hW => ⟨rfl, by rw [hU]; exact hP.sub (ws' := (w_G q cI 2 64 Ta)) [1] rfl, gEv.warm hW hE⟩⟩ rfl rfl hl.1 rfl (lv_room (Nat.le_of_ble_eq_true rfl)) dX2_open_31 ⟨Nat.zero_le _, Nat.zero_le _⟩) hP hS (gSub rfl) rfl rfl rfl rfl rfl (fun H locs hP hS => ?_)
        obtain ⟨g34, hc, hf⟩ := bn_some hf
        try dsimp only at hf
        refine g_call0 (ws' := (w_1_2 q cI cJ cD Tn g34)) (st1 := []) hq [1, 2] [2] [.inr 0, .inl 0] (va_runSN (As := [.ref (q 2), .int x3, .int r31]) (rest := []) ⟨hx, hb, hml, hown, hts⟩ (kX8_put l D cI cJ cD q hq 2 (by decide) N 64 Ta x3 r31 g34 hc) ⟨va_cnB (host := RX8) 3 hts gX2_open_X8_put_n23 rfl rfl rfl (hE.2 (.methodLinkNest RX2 23 yX8_put RX8) (by decide +kernel)) (hts (.initialized RX8) (by decide +kernel)) (by decide +kernel) ⟨(Nat.le_of_ble_eq_true rfl), (Nat.le_of_ble_eq_true rfl)⟩, hts (.static yX8_put) (by decide +kernel), trivial⟩ ⟨gP_blind, fun U hU hW => ⟨rfl, by rw [hU]; exact hP.sub (ws' := (w_G q cI 2 64 Ta)) [1] rfl, gEv.warm hW hE⟩⟩ rfl rfl hl.1 rfl (lv_room (Nat.le_of_ble_eq_true rfl)) dX2_open_34 ⟨Nat.zero_le _, Nat.zero_le _⟩) hP hS (gSub rfl) rfl rfl rfl rfl rfl (fun H locs hP hS => ?_)
        refine lv_iinc (v := (x3 + (-1 : Int32))) (lv' := [(3, .int (x3 + (-1 : Int32))), (0, .ref (q 1)), (1, .int x1), (2, .int x2)]) hx hb dX2_open_37 hl (k := 3) rfl rfl (by decide) rfl (fun ls hl => ?_)
        refine lv_goto (tgt := 14) hx hb dX2_open_40 (by decide) ?_
        exact ih14 Tn g34 x1 x2 (x3 + (-1 : Int32)) hf _ _ hP hS _ (lv_sub hl [1, 2, 3, 0] rfl)
  unfold fX2_open at hf
  refine lv_aload_n hx hb dX2_open_0 rfl (lv_at hl 0 rfl) ?_
  refine va_get (D := D) (ci := 2) (v := .int Tn) (C := RX2) (T := TX2) (N := 2) hx hb hts huX2 hown hE.1 hP 0 rfl rfl 1 (by decide) hk15 (fun _ h9 => h9) rfl dX2_open_1 ?_
  refine lv_bipush (v := (64 : Int32)) hx hb dX2_open_4 (by decide) ?_
  refine lv_icmp_ge (tgt := 62) hx hb dX2_open_6 (by decide) (fun c_2 => ?_) (fun c_2 => ?_)
  · have hf := (if_pos c_2).symm.trans hf
    exact J62 Tn Ta hf _ _ hP hS _ (lv_sub hl [] rfl)
  · have hf := (if_neg c_2).symm.trans hf
    refine lv_aload_n hx hb dX2_open_9 rfl (lv_at hl 0 rfl) ?_
    refine va_get (D := D) (ci := 2) (v := .int Tn) (C := RX2) (T := TX2) (N := 2) hx hb hts huX2 hown hE.1 hP 0 rfl rfl 1 (by decide) hk15 (fun _ h9 => h9) rfl dX2_open_10 ?_
    refine lv_istore_n (lv' := [(3, .int Tn), (0, .ref (q 1)), (1, .int p1), (2, .int p2)]) hx hb dX2_open_13 rfl hl (by decide) rfl (fun ls hl => ?_)
    exact K14 N Tn Ta p1 p2 Tn hf _ _ hP hS _ (lv_sub hl [1, 2, 3, 0] rfl)
set_option maxHeartbeats 4000000 in
set_option maxRecDepth 100000 in
theorem kX2_push (l : Launch) (D : va_G) (cI cJ cD : ClassId) (q : Nat → Nat) (hq : gInj 14 q) (N : Nat) (Tn : Int32) (Ta : (Nat → Int32)) (p1 : Int32) (Tn9 : Int32) (Ta9 : (Nat → Int32)) (hf : fX2_push N Tn Ta p1 = some (Tn9, Ta9)) : Met l yX2_push wsX2_push rX2_push (gP D cI cJ cD [.ref (q 1), .int p1] (w_1_2 q cI cJ cD Tn Ta)) (gQ D none (w_1_2 q cI cJ cD Tn9 Ta9) (gA q [1, 2])) 0 0 (gA q [1, 2]) := by
  refine Met.ofW (cc := cX2_push) (maxL := 2) (ret := none) (by decide +kernel) rfl ?_
  intro p e s m args below meth c s₁ B hml hv
  obtain ⟨rfl, hP, hE⟩ := hv
  have hx := B.exec
  have hb := B.bytes
  have hr := B.returns
  have hts := atoms_spec (ws := wsX2_push) B.pre
  have hown : s.vm.findClass RX2 = some m.cls := findClass_of_methodNamed B.named
  have hlocks := B.notSynchronized
  have hS : va_S (gA q [1, 2]) s.heap s.heap [] := va_S.rf
  have hl := lv_entry ([.ref (q 1), .int p1]) (n := 2) (Nat.le_of_ble_eq_true rfl)
  rw [lg_entry_eq]
  generalize (lg_sl ([.ref (q 1), .int p1]) ++ List.replicate (2 - (lg_sl ([.ref (q 1), .int p1])).length) Slot.unset).toArray = ls at hl ⊢
  have hl : lv_has ls 2 [(0, .ref (q 1)), (1, .int p1)] := hl
  have hk15 := hts (.fieldLink RX2 15 "LyndonText$Letters" "count" "I") (by decide +kernel)
  have huX2 : ∀ w ∈ u_ws RX2 TX2 2, w ∈ wsX2_push := by decide +kernel
  unfold fX2_push at hf
  refine lv_aload_n hx hb dX2_push_0 rfl (lv_at hl 0 rfl) ?_
  refine lv_aload_n hx hb dX2_push_1 rfl (lv_at hl 0 rfl) ?_
  refine va_get (D := D) (ci := 2) (v := .int Tn) (C := RX2) (T := TX2) (N := 2) hx hb hts huX2 hown hE.1 hP 0 rfl rfl 1 (by decide) hk15 (fun _ h9 => h9) rfl dX2_push_2 ?_
  refine lv_iload_n hx hb dX2_push_5 rfl (lv_at hl 1 rfl) ?_
  obtain ⟨⟨Tn6, Ta6⟩, hc, hf⟩ := bn_some hf
  try dsimp only at hf
  refine g_call0 (ws' := (w_1_2 q cI cJ cD Tn6 Ta6)) (st1 := []) hq [1, 2] [1, 2] [.inl 0, .inl 1] (va_runV (As := [.int Tn, .int p1]) (rest := []) ⟨hx, hb, hml, hown, hts⟩ (kX2_open l D cI cJ cD q hq N Tn Ta Tn p1 Tn6 Ta6 hc) (cwV 2 hts gX2_push_X2_open rfl rfl rfl (by decide +kernel) ⟨(Nat.le_of_ble_eq_true rfl), (Nat.le_of_ble_eq_true rfl)⟩) ⟨gP_blind, va_recv hE.1 hP (ci := 2) (q0 := 0) rfl rfl, fun U hU hW => ⟨rfl, by rw [hU]; exact hP.sub (ws' := (w_1_2 q cI cJ cD Tn Ta)) [0, 1] rfl, gEv.warm hW hE⟩⟩ rfl rfl hl.1 rfl (lv_room (Nat.le_of_ble_eq_true rfl)) dX2_push_6 ⟨Nat.zero_le _, Nat.zero_le _⟩) hP hS (gSub rfl) rfl rfl rfl rfl rfl (fun H locs hP hS => ?_)
  cases hf
  exact W.vret hx hb hr (fun t ht hW => ⟨⟨rfl, by rw [ht]; exact hP⟩, hS.F ht⟩) hS.2.2 dX2_push_9
set_option maxHeartbeats 4000000 in
set_option maxRecDepth 100000 in
theorem kX8_checkIndex (l : Launch) (D : va_G) (cI cJ cD : ClassId) (q : Nat → Nat) (hq : gInj 14 q) (N : Nat) (p0 : Int32) (p1 : Int32) (hf : fX8_checkIndex N p0 p1 = some (.inr ())) : Met l yX8_checkIndex wsX8_checkIndex rX8_checkIndex (gP D cI cJ cD [.int p0, .int p1] (w_0none q cI cJ cD)) (gQ D none (w_0none q cI cJ cD) (gA q [])) 0 0 (gA q []) := by
  refine Met.ofW (cc := cX8_checkIndex) (maxL := 2) (ret := none) (by decide +kernel) rfl ?_
  intro p e s m args below meth c s₁ B hml hv
  obtain ⟨rfl, hP, hE⟩ := hv
  have hx := B.exec
  have hb := B.bytes
  have hr := B.returns
  have hts := atoms_spec (ws := wsX8_checkIndex) B.pre
  have hown : s.vm.findClass RX8 = some m.cls := findClass_of_methodNamed B.named
  have hlocks := B.notSynchronized
  have hS : va_S (gA q []) s.heap s.heap [] := va_S.rf
  have hl := lv_entry ([.int p0, .int p1]) (n := 2) (Nat.le_of_ble_eq_true rfl)
  rw [lg_entry_eq]
  generalize (lg_sl ([.int p0, .int p1]) ++ List.replicate (2 - (lg_sl ([.int p0, .int p1])).length) Slot.unset).toArray = ls at hl ⊢
  have hl : lv_has ls 2 [(0, .int p0), (1, .int p1)] := hl
  have J9 : ∀ (_ : Unit), fX8_checkIndex_J9 N = some (.inr ()) → ∀ (H : Heap) (locs : List Loc), va_P D vwCl (w_0none q cI cJ cD) H → va_S (gA q []) s.heap H locs → ∀ ls : Array Slot, lv_has ls 2 [] → W p l e (headSpec wsX8_checkIndex rX8_checkIndex).room s m ([.int p0, .int p1] : List Value).toArray below meth c H locs 0 0 (MQ below (gQ D none (w_0none q cI cJ cD) (gA q [])) ([.int p0, .int p1] : List Value).toArray s 0 0 (gA q [])) (F0 m 9 ls []) := by
    intro _ hf H locs hP hS ls hl
    unfold fX8_checkIndex_J9 at hf
    exact nomatch hf
  unfold fX8_checkIndex at hf
  refine lv_iload_n hx hb dX8_checkIndex_0 rfl (lv_at hl 0 rfl) ?_
  refine lv_if_lt (tgt := 9) hx hb dX8_checkIndex_1 (by decide) (fun c_1 => ?_) (fun c_1 => ?_)
  · have hf := (if_pos c_1).symm.trans hf
    exact J9 () hf _ _ hP hS _ (lv_sub hl [] rfl)
  · have hf := (if_neg c_1).symm.trans hf
    refine lv_iload_n hx hb dX8_checkIndex_4 rfl (lv_at hl 0 rfl) ?_
    refine lv_iload_n hx hb dX8_checkIndex_5 rfl (lv_at hl 1 rfl) ?_
    refine lv_icmp_lt (tgt := 19) hx hb dX8_checkIndex_6 (by decide) (fun c_2 => ?_) (fun c_2 => ?_)
    · have hf := (if_pos c_2).symm.trans hf
      cases hf
      exact W.vret hx hb hr (fun t ht hW => ⟨⟨rfl, by rw [ht]; exact hP⟩, hS.F ht⟩) hS.2.2 dX8_checkIndex_19
    · have hf := (if_neg c_2).symm.trans hf
      exact J9 () hf _ _ hP hS _ (lv_sub hl [] rfl)
set_option maxHeartbeats 4000000 in
set_option maxRecDepth 100000 in
theorem kX8_checkIndexx (l : Launch) (hlt : l.stackTraces = false) (D : va_G) (cI cJ cD : ClassId) (sa : Nat → Nat) (q : Nat → Nat) (hq : gInj 14 q) (N : Nat) (p0 : Int32) (p1 : Int32) (e0 : Nat) (hf : fX8_checkIndex N p0 p1 = some (.inl e0)) : vx_Met l yX8_checkIndex wsX8_checkIndex rX8_checkIndexx (gPx D cI cJ cD sa (gA q []) [.int p0, .int p1] (w_0none q cI cJ cD)) (fun _ _ _ _ => False) (gX D (gEn e0) (w_0none q cI cJ cD) (gA q [])) 1 6 (gA q []) := by
  refine vx_ofW (cc := cX8_checkIndex) (maxL := 2) (ret := none) (by decide +kernel) rfl ?_
  intro p e s m args below meth c s₁ B hml htab hv
  obtain ⟨rfl, hP, hE, hXe⟩ := hv
  have hx := B.exec
  have hb := B.bytes
  have hr := B.returns
  have hts := atoms_spec (ws := wsX8_checkIndex) B.pre
  have hown : s.vm.findClass RX8 = some m.cls := findClass_of_methodNamed B.named
  have hlocks := B.notSynchronized
  have hS : va_S (gA q []) s.heap s.heap [] := va_S.rf
  have hl := lv_entry ([.int p0, .int p1]) (n := 2) (Nat.le_of_ble_eq_true rfl)
  rw [lg_entry_eq]
  generalize (lg_sl ([.int p0, .int p1]) ++ List.replicate (2 - (lg_sl ([.int p0, .int p1])).length) Slot.unset).toArray = ls at hl ⊢
  have hl : lv_has ls 2 [(0, .int p0), (1, .int p1)] := hl
  have J9 : ∀ (_ : Unit), fX8_checkIndex_J9 N = some (.inl e0) → ∀ (H : Heap) (locs : List Loc), va_P D vwCl (w_0none q cI cJ cD) H → va_S (gA q []) s.heap H locs → ∀ ls : Array Slot, lv_has ls 2 [] → W p l e (headSpec wsX8_checkIndex rX8_checkIndexx).room s m ([.int p0, .int p1] : List Value).toArray below meth c H locs 0 0 (vx_MQ below (fun _ _ _ _ => False) (gX D (gEn e0) (w_0none q cI cJ cD) (gA q [])) ([.int p0, .int p1] : List Value).toArray s 1 6 (gA q [])) (F0 m 9 ls []) := by
    intro _ hf H locs hP hS ls hl
    unfold fX8_checkIndex_J9 at hf
    cases hf
    exact vx_throwS (own := RX8) (cls := "java/lang/IndexOutOfBoundsException") (text := "there is no such place, factor, run or rank") (names := ["java/lang/RuntimeException", "java/lang/Exception"]) (ik := 232) (is := 234) (ic := 236) (sa := sa 234) (A := (gA q [])) hx hb hlt hown (by decide +kernel) (by decide +kernel) (hts (.classLink RX8 232 "java/lang/IndexOutOfBoundsException") (by decide +kernel)) (hts (.initialized "java/lang/IndexOutOfBoundsException") (by decide +kernel)) (hXe.1.1 (234, "there is no such place, factor, run or rank") (by decide +kernel)) (vx_hat (B := gB "java/lang/IndexOutOfBoundsException") (fun w h => hts w (gw_X8_checkIndex_9 w h)) (gwB_X8_checkIndex_9) (gB_ok hXe.1 (cls := "java/lang/IndexOutOfBoundsException") (by decide +kernel))) (gwg_X8_checkIndex_9) hXe.2.1 hXe.2.2 hS (hl.1.trans hml.symm) dX8_checkIndex_9 dX8_checkIndex_12 dX8_checkIndex_13 dX8_checkIndex_15 dX8_checkIndex_18 (fun x9 hx9 => (htab x9 hx9).elim) (Nat.le_of_ble_eq_true rfl) (Nat.le_of_ble_eq_true rfl) (Nat.le_of_ble_eq_true rfl) (Nat.le_of_ble_eq_true rfl) hlocks (fun t hv hz hk => ⟨rfl, hP.kept (fun k9 x9 hx9 => hk x9.1 ((hP k9 x9 hx9).lt)), ⟨Nat.le_trans hS.1 hz, fun a9 h1 hn => (hk a9 (Nat.lt_of_lt_of_le h1 hS.1)).trans (hS.2.1 a9 h1 hn)⟩⟩) hS.2.2 (Nat.le_of_ble_eq_true rfl) (Nat.le_of_ble_eq_true rfl)
  unfold fX8_checkIndex at hf
  refine lv_iload_n hx hb dX8_checkIndex_0 rfl (lv_at hl 0 rfl) ?_
  refine lv_if_lt (tgt := 9) hx hb dX8_checkIndex_1 (by decide) (fun c_1 => ?_) (fun c_1 => ?_)
  · have hf := (if_pos c_1).symm.trans hf
    exact J9 () hf _ _ hP hS _ (lv_sub hl [] rfl)
  · have hf := (if_neg c_1).symm.trans hf
    refine lv_iload_n hx hb dX8_checkIndex_4 rfl (lv_at hl 0 rfl) ?_
    refine lv_iload_n hx hb dX8_checkIndex_5 rfl (lv_at hl 1 rfl) ?_
    refine lv_icmp_lt (tgt := 19) hx hb dX8_checkIndex_6 (by decide) (fun c_2 => ?_) (fun c_2 => ?_)
    · have hf := (if_pos c_2).symm.trans hf
      exact nomatch hf
    · have hf := (if_neg c_2).symm.trans hf
      exact J9 () hf _ _ hP hS _ (lv_sub hl [] rfl)
set_option maxHeartbeats 4000000 in
set_option maxRecDepth 100000 in
theorem kX2_letter (l : Launch) (D : va_G) (cI cJ cD : ClassId) (q : Nat → Nat) (hq : gInj 14 q) (N : Nat) (Tn : Int32) (Ta : (Nat → Int32)) (p1 : Int32) (r0 : Int32) (hf : fX2_letter N Tn Ta p1 = some r0) : Met l yX2_letter wsX2_letter rX2_letter (gP D cI cJ cD [.ref (q 1), .int p1] (w_1_2 q cI cJ cD Tn Ta)) (gQ D (some (.int r0)) (w_1_2 q cI cJ cD Tn Ta) (gA q [1, 2])) 0 0 (gA q [1, 2]) := by
  refine Met.ofW (cc := cX2_letter) (maxL := 2) (ret := (some .int)) (by decide +kernel) rfl ?_
  intro p e s m args below meth c s₁ B hml hv
  obtain ⟨rfl, hP, hE⟩ := hv
  have hx := B.exec
  have hb := B.bytes
  have hr := B.returns
  have hts := atoms_spec (ws := wsX2_letter) B.pre
  have hown : s.vm.findClass RX2 = some m.cls := findClass_of_methodNamed B.named
  have hlocks := B.notSynchronized
  have hS : va_S (gA q [1, 2]) s.heap s.heap [] := va_S.rf
  have hl := lv_entry ([.ref (q 1), .int p1]) (n := 2) (Nat.le_of_ble_eq_true rfl)
  rw [lg_entry_eq]
  generalize (lg_sl ([.ref (q 1), .int p1]) ++ List.replicate (2 - (lg_sl ([.ref (q 1), .int p1])).length) Slot.unset).toArray = ls at hl ⊢
  have hl : lv_has ls 2 [(0, .ref (q 1)), (1, .int p1)] := hl
  have hk9 := hts (.fieldLink RX2 9 "LyndonText$Letters" "row" "[I") (by decide +kernel)
  have huX2 : ∀ w ∈ u_ws RX2 TX2 2, w ∈ wsX2_letter := by decide +kernel
  unfold fX2_letter at hf
  refine lv_aload_n hx hb dX2_letter_0 rfl (lv_at hl 0 rfl) ?_
  refine va_get (D := D) (ci := 2) (v := .ref (q 2)) (C := RX2) (T := TX2) (N := 2) hx hb hts huX2 hown hE.1 hP 0 rfl rfl 0 (by decide) hk9 (fun _ h9 => h9) rfl dX2_letter_1 ?_
  refine lv_iload_n hx hb dX2_letter_4 rfl (lv_at hl 1 rfl) ?_
  obtain ⟨r5, hc, hf⟩ := bn_some hf
  try dsimp only at hf
  refine g_call0 (ws' := (w_1_2 q cI cJ cD Tn Ta)) (st1 := [.int r5]) hq [1, 2] [2] [.inr 0, .inl 0] (va_runSN (As := [.ref (q 2), .int p1]) (rest := []) ⟨hx, hb, hml, hown, hts⟩ (kX8_at l D cI cJ cD q hq 2 (by decide) N 64 Ta p1 r5 hc) ⟨va_cnB (host := RX8) 2 hts gX2_letter_X8_at_n19 rfl rfl rfl (hE.2 (.methodLinkNest RX2 19 yX8_at RX8) (by decide +kernel)) (hts (.initialized RX8) (by decide +kernel)) (by decide +kernel) ⟨(Nat.le_of_ble_eq_true rfl), (Nat.le_of_ble_eq_true rfl)⟩, hts (.static yX8_at) (by decide +kernel), trivial⟩ ⟨gP_blind, fun U hU hW => ⟨rfl, by rw [hU]; exact hP.sub (ws' := (w_G q cI 2 64 Ta)) [1] rfl, gEv.warm hW hE⟩⟩ rfl rfl hl.1 rfl (lv_room (Nat.le_of_ble_eq_true rfl)) dX2_letter_5 ⟨Nat.zero_le _, Nat.zero_le _⟩) hP hS (gSub rfl) rfl rfl rfl rfl rfl (fun H locs hP hS => ?_)
  cases hf
  exact W.iret hx hb hr (fun t ht hW => ⟨⟨rfl, by rw [ht]; exact hP⟩, hS.F ht⟩) hS.2.2 dX2_letter_8
set_option maxHeartbeats 4000000 in
set_option maxRecDepth 100000 in
theorem kX2_write (l : Launch) (D : va_G) (cI cJ cD : ClassId) (q : Nat → Nat) (hq : gInj 14 q) (N : Nat) (Tn : Int32) (Ta : (Nat → Int32)) (p1 : Int32) (p2 : Int32) (Ta9 : (Nat → Int32)) (hf : fX2_write N Tn Ta p1 p2 = some Ta9) : Met l yX2_write wsX2_write rX2_write (gP D cI cJ cD [.ref (q 1), .int p1, .int p2] (w_1_2 q cI cJ cD Tn Ta)) (gQ D none (w_1_2 q cI cJ cD Tn Ta9) (gA q [1, 2])) 0 0 (gA q [1, 2]) := by
  refine Met.ofW (cc := cX2_write) (maxL := 3) (ret := none) (by decide +kernel) rfl ?_
  intro p e s m args below meth c s₁ B hml hv
  obtain ⟨rfl, hP, hE⟩ := hv
  have hx := B.exec
  have hb := B.bytes
  have hr := B.returns
  have hts := atoms_spec (ws := wsX2_write) B.pre
  have hown : s.vm.findClass RX2 = some m.cls := findClass_of_methodNamed B.named
  have hlocks := B.notSynchronized
  have hS : va_S (gA q [1, 2]) s.heap s.heap [] := va_S.rf
  have hl := lv_entry ([.ref (q 1), .int p1, .int p2]) (n := 3) (Nat.le_of_ble_eq_true rfl)
  rw [lg_entry_eq]
  generalize (lg_sl ([.ref (q 1), .int p1, .int p2]) ++ List.replicate (3 - (lg_sl ([.ref (q 1), .int p1, .int p2])).length) Slot.unset).toArray = ls at hl ⊢
  have hl : lv_has ls 3 [(0, .ref (q 1)), (1, .int p1), (2, .int p2)] := hl
  have hk9 := hts (.fieldLink RX2 9 "LyndonText$Letters" "row" "[I") (by decide +kernel)
  have huX2 : ∀ w ∈ u_ws RX2 TX2 2, w ∈ wsX2_write := by decide +kernel
  unfold fX2_write at hf
  refine lv_aload_n hx hb dX2_write_0 rfl (lv_at hl 0 rfl) ?_
  refine va_get (D := D) (ci := 2) (v := .ref (q 2)) (C := RX2) (T := TX2) (N := 2) hx hb hts huX2 hown hE.1 hP 0 rfl rfl 0 (by decide) hk9 (fun _ h9 => h9) rfl dX2_write_1 ?_
  refine lv_iload_n hx hb dX2_write_4 rfl (lv_at hl 1 rfl) ?_
  refine lv_iload_n hx hb dX2_write_5 rfl (lv_at hl 2 rfl) ?_
  obtain ⟨g6, hc, hf⟩ := bn_some hf
  try dsimp only at hf
  refine g_call0 (ws' := (w_1_2 q cI cJ cD Tn g6)) (st1 := []) hq [1, 2] [2] [.inr 0, .inl 0] (va_runSN (As := [.ref (q 2), .int p1, .int p2]) (rest := []) ⟨hx, hb, hml, hown, hts⟩ (kX8_put l D cI cJ cD q hq 2 (by decide) N 64 Ta p1 p2 g6 hc) ⟨va_cnB (host := RX8) 3 hts gX2_write_X8_put_n23 rfl rfl rfl (hE.2 (.methodLinkNest RX2 23 yX8_put RX8) (by decide +kernel)) (hts (.initialized RX8) (by decide +kernel)) (by decide +kernel) ⟨(Nat.le_of_ble_eq_true rfl), (Nat.le_of_ble_eq_true rfl)⟩, hts (.static yX8_put) (by decide +kernel), trivial⟩ ⟨gP_blind, fun U hU hW => ⟨rfl, by rw [hU]; exact hP.sub (ws' := (w_G q cI 2 64 Ta)) [1] rfl, gEv.warm hW hE⟩⟩ rfl rfl hl.1 rfl (lv_room (Nat.le_of_ble_eq_true rfl)) dX2_write_6 ⟨Nat.zero_le _, Nat.zero_le _⟩) hP hS (gSub rfl) rfl rfl rfl rfl rfl (fun H locs hP hS => ?_)
  cases hf
  exact W.vret hx hb hr (fun t ht hW => ⟨⟨rfl, by rw [ht]; exact hP⟩, hS.F ht⟩) hS.2.2 dX2_write_9
set_option maxHeartbeats 4000000 in
set_option maxRecDepth 100000 in
theorem kX2_take (l : Launch) (D : va_G) (cI cJ cD : ClassId) (q : Nat → Nat) (hq : gInj 14 q) (N : Nat) (Tn : Int32) (Ta : (Nat → Int32)) (p1 : Int32) (r0 : Int32) (Tn9 : Int32) (Ta9 : (Nat → Int32)) (hf : fX2_take N Tn Ta p1 = some (r0, Tn9, Ta9)) : Met l yX2_take wsX2_take rX2_take (gP D cI cJ cD [.ref (q 1), .int p1] (w_1_2 q cI cJ cD Tn Ta)) (gQ D (some (.int r0)) (w_1_2 q cI cJ cD Tn9 Ta9) (gA q [1, 2])) 0 0 (gA q [1, 2]) := by
  refine Met.ofW (cc := cX2_take) (maxL := 4) (ret := (some .int)) (by decide +kernel) rfl ?_
  intro p e s m args below meth c s₁ B hml hv
  obtain ⟨rfl, hP, hE⟩ := hv
  have hx := B.exec
  have hb := B.bytes
  have hr := B.returns
  have hts := atoms_spec (ws := wsX2_take) B.pre
  have hown : s.vm.findClass RX2 = some m.cls := findClass_of_methodNamed B.named
  have hlocks := B.notSynchronized
  have hS : va_S (gA q [1, 2]) s.heap s.heap [] := va_S.rf
  have hl := lv_entry ([.ref (q 1), .int p1]) (n := 4) (Nat.le_of_ble_eq_true rfl)
  rw [lg_entry_eq]
  generalize (lg_sl ([.ref (q 1), .int p1]) ++ List.replicate (4 - (lg_sl ([.ref (q 1), .int p1])).length) Slot.unset).toArray = ls at hl ⊢
  have hl : lv_has ls 4 [(0, .ref (q 1)), (1, .int p1)] := hl
  have hDm : ∀ (z0 : Int32) (z1 : (Nat → Int32)), va_D (gA q [1, 2]) (w_1_2 q cI cJ cD z0 z1) := fun _ _ => gD_of hq [1, 2] rfl rfl rfl (fun k h => ⟨k, h, rfl⟩)
  have hk9 := hts (.fieldLink RX2 9 "LyndonText$Letters" "row" "[I") (by decide +kernel)
  have hk15 := hts (.fieldLink RX2 15 "LyndonText$Letters" "count" "I") (by decide +kernel)
  have huX2 : ∀ w ∈ u_ws RX2 TX2 2, w ∈ wsX2_take := by decide +kernel
  have J45 : ∀ (Tn : Int32) (Ta : (Nat → Int32)) (x2 : Int32), fX2_take_J45 N Tn Ta x2 = some (r0, Tn9, Ta9) → ∀ (H : Heap) (locs : List Loc), va_P D vwCl (w_1_2 q cI cJ cD Tn Ta) H → va_S (gA q [1, 2]) s.heap H locs → ∀ ls : Array Slot, lv_has ls 4 [(0, .ref (q 1)), (2, .int x2)] → W p l e (headSpec wsX2_take rX2_take).room s m ([.ref (q 1), .int p1] : List Value).toArray below meth c H locs 0 0 (MQ below (gQ D (some (.int r0)) (w_1_2 q cI cJ cD Tn9 Ta9) (gA q [1, 2])) ([.ref (q 1), .int p1] : List Value).toArray s 0 0 (gA q [1, 2])) (F0 m 45 ls []) := by
    intro Tn Ta x2 hf H locs hP hS ls hl
    unfold fX2_take_J45 at hf
    refine lv_aload_n hx hb dX2_take_45 rfl (lv_at hl 0 rfl) ?_
    refine lv_dup hx hb dX2_take_46 rfl ?_
    refine va_get (D := D) (ci := 2) (v := .int Tn) (C := RX2) (T := TX2) (N := 2) hx hb hts huX2 hown hE.1 hP 0 rfl rfl 1 (by decide) hk15 (fun _ h9 => h9) rfl dX2_take_47 ?_
    refine lv_iconst (v := (1 : Int32)) hx hb dX2_take_50 (by decide) ?_
    refine lv_isub hx hb dX2_take_51 ?_
    refine va_put (D := D) (ci := 2) (v := .int (Tn - (1 : Int32))) (ty := .int) (C := RX2) (T := TX2) (N := 2) hx hb hts huX2 tyX2 tyX2_ok nmX2 hown hE.1 hP (hDm Tn Ta) hS 0 rfl rfl 1 (by decide) hk15 (fun _ h9 => h9) rfl (by decide +kernel) rfl rfl (Nat.le_of_ble_eq_true rfl) dX2_take_52 (fun H locs hP _ hS => ?_)
    have hP : va_P D vwCl (w_1_2 q cI cJ cD (Tn - (1 : Int32)) Ta) H := hP
    refine lv_iload_n hx hb dX2_take_55 rfl (lv_at hl 1 rfl) ?_
    cases hf
    exact W.iret hx hb hr (fun t ht hW => ⟨⟨rfl, by rw [ht]; exact hP⟩, hS.F ht⟩) hS.2.2 dX2_take_56
  have K13 : ∀ (n13 : Nat) (Tn : Int32) (Ta : (Nat → Int32)) (x2 : Int32) (x3 : Int32), fX2_take_H13 N n13 Tn Ta x2 x3 = some (r0, Tn9, Ta9) → ∀ (H : Heap) (locs : List Loc), va_P D vwCl (w_1_2 q cI cJ cD Tn Ta) H → va_S (gA q [1, 2]) s.heap H locs → ∀ ls : Array Slot, lv_has ls 4 [(0, .ref (q 1)), (2, .int x2), (3, .int x3)] → W p l e (headSpec wsX2_take rX2_take).room s m ([.ref (q 1), .int p1] : List Value).toArray below meth c H locs 0 0 (MQ below (gQ D (some (.int r0)) (w_1_2 q cI cJ cD Tn9 Ta9) (gA q [1, 2])) ([.ref (q 1), .int p1] : List Value).toArray s 0 0 (gA q [1, 2])) (F0 m 13 ls []) := by
    intro n13
    induction n13 with
    | zero =>
      intro Tn Ta x2 x3 hf
      exact nomatch (show (none : Option (Int32 × Int32 × (Nat → Int32))) = some (r0, Tn9, Ta9) from hf)
    | succ n13 ih13 =>
      intro Tn Ta x2 x3 hf H locs hP hS ls hl
      have hf : fX2_take_B13 N (fX2_take_H13 N n13) Tn Ta x2 x3 = some (r0, Tn9, Ta9) := hf
      unfold fX2_take_B13 at hf
      refine lv_iload_n hx hb dX2_take_13 rfl (lv_at hl 2 rfl) ?_
      refine lv_aload_n hx hb dX2_take_14 rfl (lv_at hl 0 rfl) ?_
      refine va_get (D := D) (ci := 2) (v := .int Tn) (C := RX2) (T := TX2) (N := 2) hx hb hts huX2 hown hE.1 hP 0 rfl rfl 1 (by decide) hk15 (fun _ h9 => h9) rfl dX2_take_15 ?_
      refine lv_icmp_ge (tgt := 45) hx hb dX2_take_18 (by decide) (fun c_1 => ?_) (fun c_1 => ?_)
      · have hf := (if_pos c_1).symm.trans hf
        exact J45 Tn Ta x2 hf _ _ hP hS _ (lv_sub hl [0, 1] rfl)
      · have hf := (if_neg c_1).symm.trans hf
        refine lv_aload_n hx hb dX2_take_21 rfl (lv_at hl 0 rfl) ?_
        refine va_get (D := D) (ci := 2) (v := .ref (q 2)) (C := RX2) (T := TX2) (N := 2) hx hb hts huX2 hown hE.1 hP 0 rfl rfl 0 (by decide) hk9 (fun _ h9 => h9) rfl dX2_take_22 ?_
        refine lv_iload_n hx hb dX2_take_25 rfl (lv_at hl 2 rfl) ?_
        refine lv_iconst (v := (1 : Int32)) hx hb dX2_take_26 (by decide) ?_
        refine lv_isub hx hb dX2_take_27 ?_
        refine lv_aload_n hx hb dX2_take_28 rfl (lv_at hl 0 rfl) ?_
        refine va_get (D := D) (ci := 2) (v := .ref (q 2)) (C := RX2) (T := TX2) (N := 2) hx hb hts huX2 hown hE.1 hP 0 rfl rfl 0 (by decide) hk9 (fun _ h9 => h9) rfl dX2_take_29 ?_
        refine lv_iload_n hx hb dX2_take_32 rfl (lv_at hl 2 rfl) ?_
        obtain ⟨r33, hc, hf⟩ := bn_some hf
        try dsimp only at hf
        refine g_call0 (ws' := (w_1_2 q cI cJ cD Tn Ta)) (st1 := [.int r33, .int (x3 - (1 : Int32)), .ref (q 2)]) hq [1, 2] [2] [.inr 0, .inl 0] (va_runSN (As := [.ref (q 2), .int x3]) (rest := [.int (x3 - (1 : Int32)), .ref (q 2)]) ⟨hx, hb, hml, hown, hts⟩ (kX8_at l D cI cJ cD q hq 2 (by decide) N 64 Ta x3 r33 hc) ⟨va_cnB (host := RX8) 2 hts gX2_take_X8_at_n19 rfl rfl rfl (hE.2 (.methodLinkNest RX2 19 yX8_at RX8) (by decide +kernel)) (hts (.initialized RX8) (by decide +kernel)) (by decide +kernel) ⟨(Nat.le_of_ble_eq_true rfl), (Nat.le_of_ble_eq_true rfl)⟩, hts (.static yX8_at) (by decide +kernel), trivial⟩ ⟨gP_blind, fun U hU hW => ⟨rfl, by rw [hU]; exact hP.sub (ws' := (w_G q cI 2 64 Ta)) [1] rfl, gEv.warm hW hE⟩⟩ rfl rfl hl.1 rfl (lv_room (Nat.le_of_ble_eq_true rfl)) dX2_take_33 ⟨Nat.zero_le _, Nat.zero_le _⟩) hP hS (gSub rfl) rfl rfl rfl rfl rfl (fun H locs hP hS => ?_)
        obtain ⟨g36, hc, hf⟩ := bn_some hf
        try dsimp only at hf
        refine g_call0 (ws' := (w_1_2 q cI cJ cD Tn g36)) (st1 := []) hq [1, 2] [2] [.inr 0, .inl 0] (va_runSN (As := [.ref (q 2), .int (x3 - (1 : Int32)), .int r33]) (rest := []) ⟨hx, hb, hml, hown, hts⟩ (kX8_put l D cI cJ cD q hq 2 (by decide) N 64 Ta (x3 - (1 : Int32)) r33 g36 hc) ⟨va_cnB (host := RX8) 3 hts gX2_take_X8_put_n23 rfl rfl rfl (hE.2 (.methodLinkNest RX2 23 yX8_put RX8) (by decide +kernel)) (hts (.initialized RX8) (by decide +kernel)) (by decide +kernel) ⟨(Nat.le_of_ble_eq_true rfl), (Nat.le_of_ble_eq_true rfl)⟩, hts (.static yX8_put) (by decide +kernel), trivial⟩ ⟨gP_blind, fun U hU hW => ⟨rfl, by rw [hU]; exact hP.sub (ws' := (w_G q cI 2 64 Ta)) [1] rfl, gEv.warm hW hE⟩⟩ rfl rfl hl.1 rfl (lv_room (Nat.le_of_ble_eq_true rfl)) dX2_take_36 ⟨Nat.zero_le _, Nat.zero_le _⟩) hP hS (gSub rfl) rfl rfl rfl rfl rfl (fun H locs hP hS => ?_)
        refine lv_iinc (v := (x3 + 1)) (lv' := [(3, .int (x3 + 1)), (0, .ref (q 1)), (2, .int x2)]) hx hb dX2_take_39 hl (k := 2) rfl rfl (by decide) rfl (fun ls hl => ?_)
        refine lv_goto (tgt := 13) hx hb dX2_take_42 (by decide) ?_
        exact ih13 Tn g36 x2 (x3 + 1) hf _ _ hP hS _ (lv_sub hl [1, 2, 0] rfl)
  unfold fX2_take at hf
  refine lv_aload_n hx hb dX2_take_0 rfl (lv_at hl 0 rfl) ?_
  refine va_get (D := D) (ci := 2) (v := .ref (q 2)) (C := RX2) (T := TX2) (N := 2) hx hb hts huX2 hown hE.1 hP 0 rfl rfl 0 (by decide) hk9 (fun _ h9 => h9) rfl dX2_take_1 ?_
  refine lv_iload_n hx hb dX2_take_4 rfl (lv_at hl 1 rfl) ?_
  obtain ⟨r5, hc, hf⟩ := bn_some hf
  try dsimp only at hf
  refine g_call0 (ws' := (w_1_2 q cI cJ cD Tn Ta)) (st1 := [.int r5]) hq [1, 2] [2] [.inr 0, .inl 0] (va_runSN (As := [.ref (q 2), .int p1]) (rest := []) ⟨hx, hb, hml, hown, hts⟩ (kX8_at l D cI cJ cD q hq 2 (by decide) N 64 Ta p1 r5 hc) ⟨va_cnB (host := RX8) 2 hts gX2_take_X8_at_n19 rfl rfl rfl (hE.2 (.methodLinkNest RX2 19 yX8_at RX8) (by decide +kernel)) (hts (.initialized RX8) (by decide +kernel)) (by decide +kernel) ⟨(Nat.le_of_ble_eq_true rfl), (Nat.le_of_ble_eq_true rfl)⟩, hts (.static yX8_at) (by decide +kernel), trivial⟩ ⟨gP_blind, fun U hU hW => ⟨rfl, by rw [hU]; exact hP.sub (ws' := (w_G q cI 2 64 Ta)) [1] rfl, gEv.warm hW hE⟩⟩ rfl rfl hl.1 rfl (lv_room (Nat.le_of_ble_eq_true rfl)) dX2_take_5 ⟨Nat.zero_le _, Nat.zero_le _⟩) hP hS (gSub rfl) rfl rfl rfl rfl rfl (fun H locs hP hS => ?_)
  refine lv_istore_n (lv' := [(2, .int r5), (0, .ref (q 1)), (1, .int p1)]) hx hb dX2_take_8 rfl hl (by decide) rfl (fun ls hl => ?_)
  refine lv_iload_n hx hb dX2_take_9 rfl (lv_at hl 2 rfl) ?_
  refine lv_iconst (v := (1 : Int32)) hx hb dX2_take_10 (by decide) ?_
  refine lv_iadd hx hb dX2_take_11 ?_
  refine lv_istore_n (lv' := [(3, .int (p1 + (1 : Int32))), (2, .int r5), (0, .ref (q 1)), (1, .int p1)]) hx hb dX2_take_12 rfl hl (by decide) rfl (fun ls hl => ?_)
  exact K13 N Tn Ta r5 (p1 + (1 : Int32)) hf _ _ hP hS _ (lv_sub hl [2, 1, 0] rfl)
set_option maxHeartbeats 4000000 in
set_option maxRecDepth 100000 in
theorem kX2_empty (l : Launch) (D : va_G) (cI cJ cD : ClassId) (q : Nat → Nat) (hq : gInj 14 q) (N : Nat) (Tn : Int32) (Tn9 : Int32) (hf : fX2_empty N Tn = some Tn9) : Met l yX2_empty wsX2_empty rX2_empty (gP D cI cJ cD [.ref (q 1)] (w_1 q cI cJ cD Tn)) (gQ D none (w_1 q cI cJ cD Tn9) (gA q [1])) 0 0 (gA q [1]) := by
  refine Met.ofW (cc := cX2_empty) (maxL := 1) (ret := none) (by decide +kernel) rfl ?_
  intro p e s m args below meth c s₁ B hml hv
  obtain ⟨rfl, hP, hE⟩ := hv
  have hx := B.exec
  have hb := B.bytes
  have hr := B.returns
  have hts := atoms_spec (ws := wsX2_empty) B.pre
  have hown : s.vm.findClass RX2 = some m.cls := findClass_of_methodNamed B.named
  have hlocks := B.notSynchronized
  have hS : va_S (gA q [1]) s.heap s.heap [] := va_S.rf
  have hl := lv_entry ([.ref (q 1)]) (n := 1) (Nat.le_of_ble_eq_true rfl)
  rw [lg_entry_eq]
  generalize (lg_sl ([.ref (q 1)]) ++ List.replicate (1 - (lg_sl ([.ref (q 1)])).length) Slot.unset).toArray = ls at hl ⊢
  have hl : lv_has ls 1 [(0, .ref (q 1))] := hl
  have hDm : ∀ (z0 : Int32), va_D (gA q [1]) (w_1 q cI cJ cD z0) := fun _ => gD_of hq [1] rfl rfl rfl (fun k h => ⟨k, h, rfl⟩)
  have hk15 := hts (.fieldLink RX2 15 "LyndonText$Letters" "count" "I") (by decide +kernel)
  have huX2 : ∀ w ∈ u_ws RX2 TX2 2, w ∈ wsX2_empty := by decide +kernel
  unfold fX2_empty at hf
  refine lv_aload_n hx hb dX2_empty_0 rfl (lv_at hl 0 rfl) ?_
  refine lv_iconst (v := (0 : Int32)) hx hb dX2_empty_1 (by decide) ?_
  refine va_put (D := D) (ci := 2) (v := .int (0 : Int32)) (ty := .int) (C := RX2) (T := TX2) (N := 2) hx hb hts huX2 tyX2 tyX2_ok nmX2 hown hE.1 hP (hDm Tn) hS 0 rfl rfl 1 (by decide) hk15 (fun _ h9 => h9) rfl (by decide +kernel) rfl rfl (Nat.le_of_ble_eq_true rfl) dX2_empty_2 (fun H locs hP _ hS => ?_)
  have hP : va_P D vwCl (w_1 q cI cJ cD (0 : Int32)) H := hP
  cases hf
  exact W.vret hx hb hr (fun t ht hW => ⟨⟨rfl, by rw [ht]; exact hP⟩, hS.F ht⟩) hS.2.2 dX2_empty_5
set_option maxHeartbeats 4000000 in
set_option maxRecDepth 100000 in
theorem kX2_turn (l : Launch) (D : va_G) (cI cJ cD : ClassId) (q : Nat → Nat) (hq : gInj 14 q) (N : Nat) (Tn : Int32) (Ta : (Nat → Int32)) (p1 : Int32) (p2 : Int32) (Ta9 : (Nat → Int32)) (hf : fX2_turn N Tn Ta p1 p2 = some Ta9) : Met l yX2_turn wsX2_turn rX2_turn (gP D cI cJ cD [.ref (q 1), .int p1, .int p2] (w_1_2 q cI cJ cD Tn Ta)) (gQ D none (w_1_2 q cI cJ cD Tn Ta9) (gA q [1, 2])) 0 0 (gA q [1, 2]) := by
  refine Met.ofW (cc := cX2_turn) (maxL := 5) (ret := none) (by decide +kernel) rfl ?_
  intro p e s m args below meth c s₁ B hml hv
  obtain ⟨rfl, hP, hE⟩ := hv
  have hx := B.exec
  have hb := B.bytes
  have hr := B.returns
  have hts := atoms_spec (ws := wsX2_turn) B.pre
  have hown : s.vm.findClass RX2 = some m.cls := findClass_of_methodNamed B.named
  have hlocks := B.notSynchronized
  have hS : va_S (gA q [1, 2]) s.heap s.heap [] := va_S.rf
  have hl := lv_entry ([.ref (q 1), .int p1, .int p2]) (n := 5) (Nat.le_of_ble_eq_true rfl)
  rw [lg_entry_eq]
  generalize (lg_sl ([.ref (q 1), .int p1, .int p2]) ++ List.replicate (5 - (lg_sl ([.ref (q 1), .int p1, .int p2])).length) Slot.unset).toArray = ls at hl ⊢
  have hl : lv_has ls 5 [(0, .ref (q 1)), (1, .int p1), (2, .int p2)] := hl
  have hk9 := hts (.fieldLink RX2 9 "LyndonText$Letters" "row" "[I") (by decide +kernel)
  have huX2 : ∀ w ∈ u_ws RX2 TX2 2, w ∈ wsX2_turn := by decide +kernel
  have J65 : ∀ (Ta : (Nat → Int32)), fX2_turn_J65 N Tn Ta = some Ta9 → ∀ (H : Heap) (locs : List Loc), va_P D vwCl (w_1_2 q cI cJ cD Tn Ta) H → va_S (gA q [1, 2]) s.heap H locs → ∀ ls : Array Slot, lv_has ls 5 [] → W p l e (headSpec wsX2_turn rX2_turn).room s m ([.ref (q 1), .int p1, .int p2] : List Value).toArray below meth c H locs 0 0 (MQ below (gQ D none (w_1_2 q cI cJ cD Tn Ta9) (gA q [1, 2])) ([.ref (q 1), .int p1, .int p2] : List Value).toArray s 0 0 (gA q [1, 2])) (F0 m 65 ls []) := by
    intro Ta hf H locs hP hS ls hl
    unfold fX2_turn_J65 at hf
    cases hf
    exact W.vret hx hb hr (fun t ht hW => ⟨⟨rfl, by rw [ht]; exact hP⟩, hS.F ht⟩) hS.2.2 dX2_turn_65
  have K2 : ∀ (n2 : Nat) (Ta : (Nat → Int32)) (x1 : Int32) (x2 : Int32) (x3 : Int32), fX2_turn_H2 N Tn n2 Ta x1 x2 x3 = some Ta9 → ∀ (H : Heap) (locs : List Loc), va_P D vwCl (w_1_2 q cI cJ cD Tn Ta) H → va_S (gA q [1, 2]) s.heap H locs → ∀ ls : Array Slot, lv_has ls 5 [(0, .ref (q 1)), (1, .int x1), (2, .int x2), (3, .int x3)] → W p l e (headSpec wsX2_turn rX2_turn).room s m ([.ref (q 1), .int p1, .int p2] : List Value).toArray below meth c H locs 0 0 (MQ below (gQ D none (w_1_2 q cI cJ cD Tn Ta9) (gA q [1, 2])) ([.ref (q 1), .int p1, .int p2] : List Value).toArray s 0 0 (gA q [1, 2])) (F0 m 2 ls []) := by
    intro n2
    induction n2 with
    | zero =>
      intro Ta x1 x2 x3 hf
      exact nomatch (show (none : Option (Nat → Int32)) = some Ta9 from hf)
    | succ n2 ih2 =>
      intro Ta x1 x2 x3 hf H locs hP hS ls hl
      have hf : fX2_turn_B2 N Tn (fX2_turn_H2 N Tn n2) Ta x1 x2 x3 = some Ta9 := hf
      unfold fX2_turn_B2 at hf
      refine lv_iload_n hx hb dX2_turn_2 rfl (lv_at hl 3 rfl) ?_
      refine lv_iload_n hx hb dX2_turn_3 rfl (lv_at hl 2 rfl) ?_
      refine lv_iload_n hx hb dX2_turn_4 rfl (lv_at hl 1 rfl) ?_
      refine lv_isub hx hb dX2_turn_5 ?_
      refine lv_iconst (v := (2 : Int32)) hx hb dX2_turn_6 (by decide) ?_
      obtain ⟨g_1, hf⟩ := gd_some hf
      refine lv_idiv hx hb dX2_turn_7 (nz_ne g_1) ?_
      refine lv_icmp_ge (tgt := 65) hx hb dX2_turn_8 (by decide) (fun c_2 => ?_) (fun c_2 => ?_)
      · have hf := (if_pos c_2).symm.trans hf
        exact J65 Ta hf _ _ hP hS _ (lv_sub hl [] rfl)
      · have hf := (if_neg c_2).symm.trans hf
        refine lv_aload_n hx hb dX2_turn_11 rfl (lv_at hl 0 rfl) ?_
        refine va_get (D := D) (ci := 2) (v := .ref (q 2)) (C := RX2) (T := TX2) (N := 2) hx hb hts huX2 hown hE.1 hP 0 rfl rfl 0 (by decide) hk9 (fun _ h9 => h9) rfl dX2_turn_12 ?_
        refine lv_iload_n hx hb dX2_turn_15 rfl (lv_at hl 1 rfl) ?_
        refine lv_iload_n hx hb dX2_turn_16 rfl (lv_at hl 3 rfl) ?_
        refine lv_iadd hx hb dX2_turn_17 ?_
        obtain ⟨r18, hc, hf⟩ := bn_some hf
        try dsimp only at hf
        refine g_call0 (ws' := (w_1_2 q cI cJ cD Tn Ta)) (st1 := [.int r18]) hq [1, 2] [2] [.inr 0, .inl 0] (va_runSN (As := [.ref (q 2), .int (x1 + x3)]) (rest := []) ⟨hx, hb, hml, hown, hts⟩ (kX8_at l D cI cJ cD q hq 2 (by decide) N 64 Ta (x1 + x3) r18 hc) ⟨va_cnB (host := RX8) 2 hts gX2_turn_X8_at_n19 rfl rfl rfl (hE.2 (.methodLinkNest RX2 19 yX8_at RX8) (by decide +kernel)) (hts (.initialized RX8) (by decide +kernel)) (by decide +kernel) ⟨(Nat.le_of_ble_eq_true rfl), (Nat.le_of_ble_eq_true rfl)⟩, hts (.static yX8_at) (by decide +kernel), trivial⟩ ⟨gP_blind, fun U hU hW => ⟨rfl, by rw [hU]; exact hP.sub (ws' := (w_G q cI 2 64 Ta)) [1] rfl, gEv.warm hW hE⟩⟩ rfl rfl hl.1 rfl (lv_room (Nat.le_of_ble_eq_true rfl)) dX2_turn_18 ⟨Nat.zero_le _, Nat.zero_le _⟩) hP hS (gSub rfl) rfl rfl rfl rfl rfl (fun H locs hP hS => ?_)
        refine lv_istore (lv' := [(4, .int r18), (0, .ref (q 1)), (1, .int x1), (2, .int x2), (3, .int x3)]) hx hb dX2_turn_21 hl (by decide) rfl (fun ls hl => ?_)
        refine lv_aload_n hx hb dX2_turn_23 rfl (lv_at hl 1 rfl) ?_
        refine va_get (D := D) (ci := 2) (v := .ref (q 2)) (C := RX2) (T := TX2) (N := 2) hx hb hts huX2 hown hE.1 hP 0 rfl rfl 0 (by decide) hk9 (fun _ h9 => h9) rfl dX2_turn_24 ?_
        refine lv_iload_n hx hb dX2_turn_27 rfl (lv_at hl 2 rfl) ?_
        refine lv_iload_n hx hb dX2_turn_28 rfl (lv_at hl 4 rfl) ?_
        refine lv_iadd hx hb dX2_turn_29 ?_
        refine lv_aload_n hx hb dX2_turn_30 rfl (lv_at hl 1 rfl) ?_
        refine va_get (D := D) (ci := 2) (v := .ref (q 2)) (C := RX2) (T := TX2) (N := 2) hx hb hts huX2 hown hE.1 hP 0 rfl rfl 0 (by decide) hk9 (fun _ h9 => h9) rfl dX2_turn_31 ?_
        refine lv_iload_n hx hb dX2_turn_34 rfl (lv_at hl 3 rfl) ?_
        refine lv_iconst (v := (1 : Int32)) hx hb dX2_turn_35 (by decide) ?_
        refine lv_isub hx hb dX2_turn_36 ?_
        refine lv_iload_n hx hb dX2_turn_37 rfl (lv_at hl 4 rfl) ?_
        refine lv_isub hx hb dX2_turn_38 ?_
        obtain ⟨r39, hc, hf⟩ := bn_some hf
        try dsimp only at hf
        refine g_call0 (ws' := (w_1_2 q cI cJ cD Tn Ta)) (st1 := [.int r39, .int (x1 + x3), .ref (q 2)]) hq [1, 2] [2] [.inr 0, .inl 0] (va_runSN (As := [.ref (q 2), .int ((x2 - (1 : Int32)) - x3)]) (rest := [.int (x1 + x3), .ref (q 2)]) ⟨hx, hb, hml, hown, hts⟩ (kX8_at l D cI cJ cD q hq 2 (by decide) N 64 Ta ((x2 - (1 : Int32)) - x3) r39 hc) ⟨va_cnB (host := RX8) 2 hts gX2_turn_X8_at_n19 rfl rfl rfl (hE.2 (.methodLinkNest RX2 19 yX8_at RX8) (by decide +kernel)) (hts (.initialized RX8) (by decide +kernel)) (by decide +kernel) ⟨(Nat.le_of_ble_eq_true rfl), (Nat.le_of_ble_eq_true rfl)⟩, hts (.static yX8_at) (by decide +kernel), trivial⟩ ⟨gP_blind, fun U hU hW => ⟨rfl, by rw [hU]; exact hP.sub (ws' := (w_G q cI 2 64 Ta)) [1] rfl, gEv.warm hW hE⟩⟩ rfl rfl hl.1 rfl (lv_room (Nat.le_of_ble_eq_true rfl)) dX2_turn_39 ⟨Nat.zero_le _, Nat.zero_le _⟩) hP hS (gSub rfl) rfl rfl rfl rfl rfl (fun H locs hP hS => ?_)
        obtain ⟨g42, hc, hf⟩ := bn_some hf
        try dsimp only at hf
        refine g_call0 (ws' := (w_1_2 q cI cJ cD Tn g42)) (st1 := []) hq [1, 2] [2] [.inr 0, .inl 0] (va_runSN (As := [.ref (q 2), .int (x1 + x3), .int r39]) (rest := []) ⟨hx, hb, hml, hown, hts⟩ (kX8_put l D cI cJ cD q hq 2 (by decide) N 64 Ta (x1 + x3) r39 g42 hc) ⟨va_cnB (host := RX8) 3 hts gX2_turn_X8_put_n23 rfl rfl rfl (hE.2 (.methodLinkNest RX2 23 yX8_put RX8) (by decide +kernel)) (hts (.initialized RX8) (by decide +kernel)) (by decide +kernel) ⟨(Nat.le_of_ble_eq_true rfl), (Nat.le_of_ble_eq_true rfl)⟩, hts (.static yX8_put) (by decide +kernel), trivial⟩ ⟨gP_blind, fun U hU hW => ⟨rfl, by rw [hU]; exact hP.sub (ws' := (w_G q cI 2 64 Ta)) [1] rfl, gEv.warm hW hE⟩⟩ rfl rfl hl.1 rfl (lv_room (Nat.le_of_ble_eq_true rfl)) dX2_turn_42 ⟨Nat.zero_le _, Nat.zero_le _⟩) hP hS (gSub rfl) rfl rfl rfl rfl rfl (fun H locs hP hS => ?_)
        refine lv_aload_n hx hb dX2_turn_45 rfl (lv_at hl 1 rfl) ?_
        refine va_get (D := D) (ci := 2) (v := .ref (q 2)) (C := RX2) (T := TX2) (N := 2) hx hb hts huX2 hown hE.1 hP 0 rfl rfl 0 (by decide) hk9 (fun _ h9 => h9) rfl dX2_turn_46 ?_
        refine lv_iload_n hx hb dX2_turn_49 rfl (lv_at hl 3 rfl) ?_
        refine lv_iconst (v := (1 : Int32)) hx hb dX2_turn_50 (by decide) ?_
        refine lv_isub hx hb dX2_turn_51 ?_
        refine lv_iload_n hx hb dX2_turn_52 rfl (lv_at hl 4 rfl) ?_
        refine lv_isub hx hb dX2_turn_53 ?_
        refine lv_iload hx hb dX2_turn_54 (lv_at hl 0 rfl) ?_
        obtain ⟨g56, hc, hf⟩ := bn_some hf
        try dsimp only at hf
        refine g_call0 (ws' := (w_1_2 q cI cJ cD Tn g56)) (st1 := []) hq [1, 2] [2] [.inr 0, .inl 0] (va_runSN (As := [.ref (q 2), .int ((x2 - (1 : Int32)) - x3), .int r18]) (rest := []) ⟨hx, hb, hml, hown, hts⟩ (kX8_put l D cI cJ cD q hq 2 (by decide) N 64 g42 ((x2 - (1 : Int32)) - x3) r18 g56 hc) ⟨va_cnB (host := RX8) 3 hts gX2_turn_X8_put_n23 rfl rfl rfl (hE.2 (.methodLinkNest RX2 23 yX8_put RX8) (by decide +kernel)) (hts (.initialized RX8) (by decide +kernel)) (by decide +kernel) ⟨(Nat.le_of_ble_eq_true rfl), (Nat.le_of_ble_eq_true rfl)⟩, hts (.static yX8_put) (by decide +kernel), trivial⟩ ⟨gP_blind, fun U hU hW => ⟨rfl, by rw [hU]; exact hP.sub (ws' := (w_G q cI 2 64 g42)) [1] rfl, gEv.warm hW hE⟩⟩ rfl rfl hl.1 rfl (lv_room (Nat.le_of_ble_eq_true rfl)) dX2_turn_56 ⟨Nat.zero_le _, Nat.zero_le _⟩) hP hS (gSub rfl) rfl rfl rfl rfl rfl (fun H locs hP hS => ?_)
        refine lv_iinc (v := (x3 + 1)) (lv' := [(3, .int (x3 + 1)), (4, .int r18), (0, .ref (q 1)), (1, .int x1), (2, .int x2)]) hx hb dX2_turn_59 hl (k := 4) rfl rfl (by decide) rfl (fun ls hl => ?_)
        refine lv_goto (tgt := 2) hx hb dX2_turn_62 (by decide) ?_
        exact ih2 g56 x1 x2 (x3 + 1) hf _ _ hP hS _ (lv_sub hl [2, 3, 4, 0] rfl)
  unfold fX2_turn at hf
  refine lv_iconst (v := (0 : Int32)) hx hb dX2_turn_0 (by decide) ?_
  refine lv_istore_n (lv' := [(3, .int (0 : Int32)), (0, .ref (q 1)), (1, .int p1), (2, .int p2)]) hx hb dX2_turn_1 rfl hl (by decide) rfl (fun ls hl => ?_)
  exact K2 N Ta p1 p2 (0 : Int32) hf _ _ hP hS _ (lv_sub hl [1, 2, 3, 0] rfl)
set_option maxHeartbeats 4000000 in
set_option maxRecDepth 100000 in
theorem kX4_power (l : Launch) (D : va_G) (cI cJ cD : ClassId) (q : Nat → Nat) (hq : gInj 14 q) (N : Nat) (p0 : Int32) (p1 : Int32) (r0 : Int64) (hf : fX4_power N p0 p1 = some r0) : Met l yX4_power wsX4_power rX4_power (gP D cI cJ cD [.int p0, .int p1] (w_0none q cI cJ cD)) (gQ D (some (.long r0)) (w_0none q cI cJ cD) (gA q [])) 0 0 (gA q []) := by
  refine Met.ofW (cc := cX4_power) (maxL := 5) (ret := (some .long)) (by decide +kernel) rfl ?_
  intro p e s m args below meth c s₁ B hml hv
  obtain ⟨rfl, hP, hE⟩ := hv
  have hx := B.exec
  have hb := B.bytes
  have hr := B.returns
  have hts := atoms_spec (ws := wsX4_power) B.pre
  have hown : s.vm.findClass RX4 = some m.cls := findClass_of_methodNamed B.named
  have hlocks := B.notSynchronized
  have hS : va_S (gA q []) s.heap s.heap [] := va_S.rf
  have hl := lv_entry ([.int p0, .int p1]) (n := 5) (Nat.le_of_ble_eq_true rfl)
  rw [lg_entry_eq]
  generalize (lg_sl ([.int p0, .int p1]) ++ List.replicate (5 - (lg_sl ([.int p0, .int p1])).length) Slot.unset).toArray = ls at hl ⊢
  have hl : lv_has ls 5 [(0, .int p0), (1, .int p1)] := hl
  have J22 : ∀ (x2 : Int64), fX4_power_J22 N x2 = some r0 → ∀ (H : Heap) (locs : List Loc), va_P D vwCl (w_0none q cI cJ cD) H → va_S (gA q []) s.heap H locs → ∀ ls : Array Slot, lv_has ls 5 [(2, .long x2)] → W p l e (headSpec wsX4_power rX4_power).room s m ([.int p0, .int p1] : List Value).toArray below meth c H locs 0 0 (MQ below (gQ D (some (.long r0)) (w_0none q cI cJ cD) (gA q [])) ([.int p0, .int p1] : List Value).toArray s 0 0 (gA q [])) (F0 m 22 ls []) := by
    intro x2 hf H locs hP hS ls hl
    unfold fX4_power_J22 at hf
    refine lv_lload_n hx hb dX4_power_22 rfl (lv_at hl 0 rfl) ?_
    cases hf
    exact W.lret hx hb hr (fun t ht hW => ⟨⟨rfl, by rw [ht]; exact hP⟩, hS.F ht⟩) hS.2.2 dX4_power_23
  have K5 : ∀ (n5 : Nat) (x0 : Int32) (x1 : Int32) (x2 : Int64) (x4 : Int32), fX4_power_H5 N n5 x0 x1 x2 x4 = some r0 → ∀ (H : Heap) (locs : List Loc), va_P D vwCl (w_0none q cI cJ cD) H → va_S (gA q []) s.heap H locs → ∀ ls : Array Slot, lv_has ls 5 [(0, .int x0), (1, .int x1), (2, .long x2), (4, .int x4)] → W p l e (headSpec wsX4_power rX4_power).room s m ([.int p0, .int p1] : List Value).toArray below meth c H locs 0 0 (MQ below (gQ D (some (.long r0)) (w_0none q cI cJ cD) (gA q [])) ([.int p0, .int p1] : List Value).toArray s 0 0 (gA q [])) (F0 m 5 ls []) := by
    intro n5
    induction n5 with
    | zero =>
      intro x0 x1 x2 x4 hf
      exact nomatch (show (none : Option Int64) = some r0 from hf)
    | succ n5 ih5 =>
      intro x0 x1 x2 x4 hf H locs hP hS ls hl
      have hf : fX4_power_B5 N (fX4_power_H5 N n5) x0 x1 x2 x4 = some r0 := hf
      unfold fX4_power_B5 at hf
      refine lv_iload hx hb dX4_power_5 (lv_at hl 3 rfl) ?_
      refine lv_iload_n hx hb dX4_power_7 rfl (lv_at hl 1 rfl) ?_
      refine lv_icmp_ge (tgt := 22) hx hb dX4_power_8 (by decide) (fun c_1 => ?_) (fun c_1 => ?_)
      · have hf := (if_pos c_1).symm.trans hf
        exact J22 x2 hf _ _ hP hS _ (lv_sub hl [2] rfl)
      · have hf := (if_neg c_1).symm.trans hf
        refine lv_lload_n hx hb dX4_power_11 rfl (lv_at hl 2 rfl) ?_
        refine lv_iload_n hx hb dX4_power_12 rfl (lv_at hl 0 rfl) ?_
        refine lv_i2l (v := (x0).toInt64) hx hb dX4_power_13 rfl ?_
        refine lv_lmul hx hb dX4_power_14 ?_
        refine lv_lstore_n (lv' := [(2, .long (x2 * (x0).toInt64)), (0, .int x0), (1, .int x1), (4, .int x4)]) hx hb dX4_power_15 rfl hl (by decide) rfl (fun ls hl => ?_)
        refine lv_iinc (v := (x4 + 1)) (lv' := [(4, .int (x4 + 1)), (2, .long (x2 * (x0).toInt64)), (0, .int x0), (1, .int x1)]) hx hb dX4_power_16 hl (k := 3) rfl rfl (by decide) rfl (fun ls hl => ?_)
        refine lv_goto (tgt := 5) hx hb dX4_power_19 (by decide) ?_
        exact ih5 x0 x1 (x2 * (x0).toInt64) (x4 + 1) hf _ _ hP hS _ (lv_sub hl [2, 3, 1, 0] rfl)
  unfold fX4_power at hf
  refine lv_lconst (v := (1 : Int64)) hx hb dX4_power_0 (by decide) ?_
  refine lv_lstore_n (lv' := [(2, .long (1 : Int64)), (0, .int p0), (1, .int p1)]) hx hb dX4_power_1 rfl hl (by decide) rfl (fun ls hl => ?_)
  refine lv_iconst (v := (0 : Int32)) hx hb dX4_power_2 (by decide) ?_
  refine lv_istore (lv' := [(4, .int (0 : Int32)), (2, .long (1 : Int64)), (0, .int p0), (1, .int p1)]) hx hb dX4_power_3 hl (by decide) rfl (fun ls hl => ?_)
  exact K5 N p0 p1 (1 : Int64) (0 : Int32) hf _ _ hP hS _ (lv_sub hl [2, 3, 1, 0] rfl)
set_option maxHeartbeats 4000000 in
set_option maxRecDepth 100000 in
theorem kX3_begin (l : Launch) (D : va_G) (cI cJ cD : ClassId) (q : Nat → Nat) (hq : gInj 14 q) (N : Nat) (Wg : Int32) (Wz : Int32) (Ww : Int32) (Wr : Int32) (p1 : Int32) (p2 : Int32) (Wg9 : Int32) (Wz9 : Int32) (Ww9 : Int32) (Wr9 : Int32) (hf : fX3_begin N Wg Wz Ww Wr p1 p2 = some (Wg9, Wz9, Ww9, Wr9)) : Met l yX3_begin wsX3_begin rX3_begin (gP D cI cJ cD [.ref (q 13), .int p1, .int p2] (w_13 q cI cJ cD Wg Wz Ww Wr)) (gQ D none (w_13 q cI cJ cD Wg9 Wz9 Ww9 Wr9) (gA q [13])) 0 0 (gA q [13]) := by
  refine Met.ofW (cc := cX3_begin) (maxL := 3) (ret := none) (by decide +kernel) rfl ?_
  intro p e s m args below meth c s₁ B hml hv
  obtain ⟨rfl, hP, hE⟩ := hv
  have hx := B.exec
  have hb := B.bytes
  have hr := B.returns
  have hts := atoms_spec (ws := wsX3_begin) B.pre
  have hown : s.vm.findClass RX3 = some m.cls := findClass_of_methodNamed B.named
  have hlocks := B.notSynchronized
  have hS : va_S (gA q [13]) s.heap s.heap [] := va_S.rf
  have hl := lv_entry ([.ref (q 13), .int p1, .int p2]) (n := 3) (Nat.le_of_ble_eq_true rfl)
  rw [lg_entry_eq]
  generalize (lg_sl ([.ref (q 13), .int p1, .int p2]) ++ List.replicate (3 - (lg_sl ([.ref (q 13), .int p1, .int p2])).length) Slot.unset).toArray = ls at hl ⊢
  have hl : lv_has ls 3 [(0, .ref (q 13)), (1, .int p1), (2, .int p2)] := hl
  have hDm : ∀ (z0 : Int32) (z1 : Int32) (z2 : Int32) (z3 : Int32), va_D (gA q [13]) (w_13 q cI cJ cD z0 z1 z2 z3) := fun _ _ _ _ => gD_of hq [13] rfl rfl rfl (fun k h => ⟨k, h, rfl⟩)
  have hk7 := hts (.fieldLink RX3 7 "LyndonText$NecklaceWalk" "greatest" "I") (by decide +kernel)
  have hk13 := hts (.fieldLink RX3 13 "LyndonText$NecklaceWalk" "size" "I") (by decide +kernel)
  have hk16 := hts (.fieldLink RX3 16 "LyndonText$NecklaceWalk" "word" "I") (by decide +kernel)
  have hk19 := hts (.fieldLink RX3 19 "LyndonText$NecklaceWalk" "root" "I") (by decide +kernel)
  have huX3 : ∀ w ∈ u_ws RX3 TX3 4, w ∈ wsX3_begin := by decide +kernel
  unfold fX3_begin at hf
  refine lv_aload_n hx hb dX3_begin_0 rfl (lv_at hl 0 rfl) ?_
  refine lv_iload_n hx hb dX3_begin_1 rfl (lv_at hl 1 rfl) ?_
  refine lv_iconst (v := (1 : Int32)) hx hb dX3_begin_2 (by decide) ?_
  refine lv_isub hx hb dX3_begin_3 ?_
  refine va_put (D := D) (ci := 3) (v := .int (p1 - (1 : Int32))) (ty := .int) (C := RX3) (T := TX3) (N := 4) hx hb hts huX3 tyX3 tyX3_ok nmX3 hown hE.1 hP (hDm Wg Wz Ww Wr) hS 0 rfl rfl 0 (by decide) hk7 (fun _ h9 => h9) rfl (by decide +kernel) rfl rfl (Nat.le_of_ble_eq_true rfl) dX3_begin_4 (fun H locs hP _ hS => ?_)
  have hP : va_P D vwCl (w_13 q cI cJ cD (p1 - (1 : Int32)) Wz Ww Wr) H := hP
  refine lv_aload_n hx hb dX3_begin_7 rfl (lv_at hl 0 rfl) ?_
  refine lv_iload_n hx hb dX3_begin_8 rfl (lv_at hl 2 rfl) ?_
  refine va_put (D := D) (ci := 3) (v := .int p2) (ty := .int) (C := RX3) (T := TX3) (N := 4) hx hb hts huX3 tyX3 tyX3_ok nmX3 hown hE.1 hP (hDm (p1 - (1 : Int32)) Wz Ww Wr) hS 0 rfl rfl 1 (by decide) hk13 (fun _ h9 => h9) rfl (by decide +kernel) rfl rfl (Nat.le_of_ble_eq_true rfl) dX3_begin_9 (fun H locs hP _ hS => ?_)
  have hP : va_P D vwCl (w_13 q cI cJ cD (p1 - (1 : Int32)) p2 Ww Wr) H := hP
  refine lv_aload_n hx hb dX3_begin_12 rfl (lv_at hl 0 rfl) ?_
  refine lv_iconst (v := (0 : Int32)) hx hb dX3_begin_13 (by decide) ?_
  refine va_put (D := D) (ci := 3) (v := .int (0 : Int32)) (ty := .int) (C := RX3) (T := TX3) (N := 4) hx hb hts huX3 tyX3 tyX3_ok nmX3 hown hE.1 hP (hDm (p1 - (1 : Int32)) p2 Ww Wr) hS 0 rfl rfl 2 (by decide) hk16 (fun _ h9 => h9) rfl (by decide +kernel) rfl rfl (Nat.le_of_ble_eq_true rfl) dX3_begin_14 (fun H locs hP _ hS => ?_)
  have hP : va_P D vwCl (w_13 q cI cJ cD (p1 - (1 : Int32)) p2 (0 : Int32) Wr) H := hP
  refine lv_aload_n hx hb dX3_begin_17 rfl (lv_at hl 0 rfl) ?_
  refine lv_iconst (v := (1 : Int32)) hx hb dX3_begin_18 (by decide) ?_
  refine va_put (D := D) (ci := 3) (v := .int (1 : Int32)) (ty := .int) (C := RX3) (T := TX3) (N := 4) hx hb hts huX3 tyX3 tyX3_ok nmX3 hown hE.1 hP (hDm (p1 - (1 : Int32)) p2 (0 : Int32) Wr) hS 0 rfl rfl 3 (by decide) hk19 (fun _ h9 => h9) rfl (by decide +kernel) rfl rfl (Nat.le_of_ble_eq_true rfl) dX3_begin_19 (fun H locs hP _ hS => ?_)
  have hP : va_P D vwCl (w_13 q cI cJ cD (p1 - (1 : Int32)) p2 (0 : Int32) (1 : Int32)) H := hP
  cases hf
  exact W.vret hx hb hr (fun t ht hW => ⟨⟨rfl, by rw [ht]; exact hP⟩, hS.F ht⟩) hS.2.2 dX3_begin_22
set_option maxHeartbeats 4000000 in
set_option maxRecDepth 100000 in
theorem kX3_root (l : Launch) (D : va_G) (cI cJ cD : ClassId) (q : Nat → Nat) (hq : gInj 14 q) (N : Nat) (Wg : Int32) (Wz : Int32) (Ww : Int32) (Wr : Int32) (r0 : Int32) (hf : fX3_root N Wg Wz Ww Wr = some r0) : Met l yX3_root wsX3_root rX3_root (gP D cI cJ cD [.ref (q 13)] (w_13 q cI cJ cD Wg Wz Ww Wr)) (gQ D (some (.int r0)) (w_13 q cI cJ cD Wg Wz Ww Wr) (gA q [13])) 0 0 (gA q [13]) := by
  refine Met.ofW (cc := cX3_root) (maxL := 1) (ret := (some .int)) (by decide +kernel) rfl ?_
  intro p e s m args below meth c s₁ B hml hv
  obtain ⟨rfl, hP, hE⟩ := hv
  have hx := B.exec
  have hb := B.bytes
  have hr := B.returns
  have hts := atoms_spec (ws := wsX3_root) B.pre
  have hown : s.vm.findClass RX3 = some m.cls := findClass_of_methodNamed B.named
  have hlocks := B.notSynchronized
  have hS : va_S (gA q [13]) s.heap s.heap [] := va_S.rf
  have hl := lv_entry ([.ref (q 13)]) (n := 1) (Nat.le_of_ble_eq_true rfl)
  rw [lg_entry_eq]
  generalize (lg_sl ([.ref (q 13)]) ++ List.replicate (1 - (lg_sl ([.ref (q 13)])).length) Slot.unset).toArray = ls at hl ⊢
  have hl : lv_has ls 1 [(0, .ref (q 13))] := hl
  have hk19 := hts (.fieldLink RX3 19 "LyndonText$NecklaceWalk" "root" "I") (by decide +kernel)
  have huX3 : ∀ w ∈ u_ws RX3 TX3 4, w ∈ wsX3_root := by decide +kernel
  unfold fX3_root at hf
  refine lv_aload_n hx hb dX3_root_0 rfl (lv_at hl 0 rfl) ?_
  refine va_get (D := D) (ci := 3) (v := .int Wr) (C := RX3) (T := TX3) (N := 4) hx hb hts huX3 hown hE.1 hP 0 rfl rfl 3 (by decide) hk19 (fun _ h9 => h9) rfl dX3_root_1 ?_
  cases hf
  exact W.iret hx hb hr (fun t ht hW => ⟨⟨rfl, by rw [ht]; exact hP⟩, hS.F ht⟩) hS.2.2 dX3_root_4
set_option maxHeartbeats 4000000 in
set_option maxRecDepth 100000 in
theorem kX3_letter (l : Launch) (D : va_G) (cI cJ cD : ClassId) (q : Nat → Nat) (hq : gInj 14 q) (N : Nat) (Wg : Int32) (Wz : Int32) (Ww : Int32) (Wr : Int32) (p1 : Int32) (r0 : Int32) (hf : fX3_letter N Wg Wz Ww Wr p1 = some r0) : Met l yX3_letter wsX3_letter rX3_letter (gP D cI cJ cD [.ref (q 13), .int p1] (w_13 q cI cJ cD Wg Wz Ww Wr)) (gQ D (some (.int r0)) (w_13 q cI cJ cD Wg Wz Ww Wr) (gA q [13])) 0 0 (gA q [13]) := by
  refine Met.ofW (cc := cX3_letter) (maxL := 2) (ret := (some .int)) (by decide +kernel) rfl ?_
  intro p e s m args below meth c s₁ B hml hv
  obtain ⟨rfl, hP, hE⟩ := hv
  have hx := B.exec
  have hb := B.bytes
  have hr := B.returns
  have hts := atoms_spec (ws := wsX3_letter) B.pre
  have hown : s.vm.findClass RX3 = some m.cls := findClass_of_methodNamed B.named
  have hlocks := B.notSynchronized
  have hS : va_S (gA q [13]) s.heap s.heap [] := va_S.rf
  have hl := lv_entry ([.ref (q 13), .int p1]) (n := 2) (Nat.le_of_ble_eq_true rfl)
  rw [lg_entry_eq]
  generalize (lg_sl ([.ref (q 13), .int p1]) ++ List.replicate (2 - (lg_sl ([.ref (q 13), .int p1])).length) Slot.unset).toArray = ls at hl ⊢
  have hl : lv_has ls 2 [(0, .ref (q 13)), (1, .int p1)] := hl
  have hk16 := hts (.fieldLink RX3 16 "LyndonText$NecklaceWalk" "word" "I") (by decide +kernel)
  have hk13 := hts (.fieldLink RX3 13 "LyndonText$NecklaceWalk" "size" "I") (by decide +kernel)
  have huX3 : ∀ w ∈ u_ws RX3 TX3 4, w ∈ wsX3_letter := by decide +kernel
  unfold fX3_letter at hf
  refine lv_aload_n hx hb dX3_letter_0 rfl (lv_at hl 0 rfl) ?_
  refine va_get (D := D) (ci := 3) (v := .int Ww) (C := RX3) (T := TX3) (N := 4) hx hb hts huX3 hown hE.1 hP 0 rfl rfl 2 (by decide) hk16 (fun _ h9 => h9) rfl dX3_letter_1 ?_
  refine lv_iconst (v := (3 : Int32)) hx hb dX3_letter_4 (by decide) ?_
  refine lv_aload_n hx hb dX3_letter_5 rfl (lv_at hl 0 rfl) ?_
  refine va_get (D := D) (ci := 3) (v := .int Wz) (C := RX3) (T := TX3) (N := 4) hx hb hts huX3 hown hE.1 hP 0 rfl rfl 1 (by decide) hk13 (fun _ h9 => h9) rfl dX3_letter_6 ?_
  refine lv_iconst (v := (1 : Int32)) hx hb dX3_letter_9 (by decide) ?_
  refine lv_isub hx hb dX3_letter_10 ?_
  refine lv_iload_n hx hb dX3_letter_11 rfl (lv_at hl 1 rfl) ?_
  refine lv_isub hx hb dX3_letter_12 ?_
  refine lv_imul hx hb dX3_letter_13 ?_
  refine lv_ishr hx hb dX3_letter_14 ?_
  refine lv_bipush (v := (7 : Int32)) hx hb dX3_letter_15 (by decide) ?_
  refine lv_iand hx hb dX3_letter_17 ?_
  cases hf
  exact W.iret hx hb hr (fun t ht hW => ⟨⟨rfl, by rw [ht]; exact hP⟩, hS.F ht⟩) hS.2.2 dX3_letter_18
set_option maxHeartbeats 4000000 in
set_option maxRecDepth 100000 in
theorem kX3_pack (l : Launch) (D : va_G) (cI cJ cD : ClassId) (q : Nat → Nat) (hq : gInj 14 q) (N : Nat) (p0 : Int32) (p1 : Int32) (r0 : Int32) (hf : fX3_pack N p0 p1 = some r0) : Met l yX3_pack wsX3_pack rX3_pack (gP D cI cJ cD [.int p0, .int p1] (w_0none q cI cJ cD)) (gQ D (some (.int r0)) (w_0none q cI cJ cD) (gA q [])) 0 0 (gA q []) := by
  refine Met.ofW (cc := cX3_pack) (maxL := 2) (ret := (some .int)) (by decide +kernel) rfl ?_
  intro p e s m args below meth c s₁ B hml hv
  obtain ⟨rfl, hP, hE⟩ := hv
  have hx := B.exec
  have hb := B.bytes
  have hr := B.returns
  have hts := atoms_spec (ws := wsX3_pack) B.pre
  have hown : s.vm.findClass RX3 = some m.cls := findClass_of_methodNamed B.named
  have hlocks := B.notSynchronized
  have hS : va_S (gA q []) s.heap s.heap [] := va_S.rf
  have hl := lv_entry ([.int p0, .int p1]) (n := 2) (Nat.le_of_ble_eq_true rfl)
  rw [lg_entry_eq]
  generalize (lg_sl ([.int p0, .int p1]) ++ List.replicate (2 - (lg_sl ([.int p0, .int p1])).length) Slot.unset).toArray = ls at hl ⊢
  have hl : lv_has ls 2 [(0, .int p0), (1, .int p1)] := hl
  unfold fX3_pack at hf
  refine lv_iload_n hx hb dX3_pack_0 rfl (lv_at hl 0 rfl) ?_
  refine lv_iconst (v := (3 : Int32)) hx hb dX3_pack_1 (by decide) ?_
  refine lv_ishl hx hb dX3_pack_2 ?_
  refine lv_iload_n hx hb dX3_pack_3 rfl (lv_at hl 1 rfl) ?_
  refine lv_bipush (v := (7 : Int32)) hx hb dX3_pack_4 (by decide) ?_
  refine lv_iand hx hb dX3_pack_6 ?_
  refine lv_ior hx hb dX3_pack_7 ?_
  cases hf
  exact W.iret hx hb hr (fun t ht hW => ⟨⟨rfl, by rw [ht]; exact hP⟩, hS.F ht⟩) hS.2.2 dX3_pack_8
set_option maxHeartbeats 4000000 in
set_option maxRecDepth 100000 in
theorem kX3_toNextWord (l : Launch) (D : va_G) (cI cJ cD : ClassId) (q : Nat → Nat) (hq : gInj 14 q) (N : Nat) (Wg : Int32) (Wz : Int32) (Ww : Int32) (Wr : Int32) (r0 : Int32) (Ww9 : Int32) (Wr9 : Int32) (hf : fX3_toNextWord N Wg Wz Ww Wr = some (r0, Ww9, Wr9)) : Met l yX3_toNextWord wsX3_toNextWord rX3_toNextWord (gP D cI cJ cD [.ref (q 13)] (w_13 q cI cJ cD Wg Wz Ww Wr)) (gQ D (some (.int r0)) (w_13 q cI cJ cD Wg Wz Ww9 Wr9) (gA q [13])) 0 0 (gA q [13]) := by
  refine Met.ofW (cc := cX3_toNextWord) (maxL := 4) (ret := (some .boolean)) (by decide +kernel) rfl ?_
  intro p e s m args below meth c s₁ B hml hv
  obtain ⟨rfl, hP, hE⟩ := hv
  have hx := B.exec
  have hb := B.bytes
  have hr := B.returns
  have hts := atoms_spec (ws := wsX3_toNextWord) B.pre
  have hown : s.vm.findClass RX3 = some m.cls := findClass_of_methodNamed B.named
  have hlocks := B.notSynchronized
  have hS : va_S (gA q [13]) s.heap s.heap [] := va_S.rf
  have hl := lv_entry ([.ref (q 13)]) (n := 4) (Nat.le_of_ble_eq_true rfl)
  rw [lg_entry_eq]
  generalize (lg_sl ([.ref (q 13)]) ++ List.replicate (4 - (lg_sl ([.ref (q 13)])).length) Slot.unset).toArray = ls at hl ⊢
  have hl : lv_has ls 4 [(0, .ref (q 13))] := hl
  have hDm : ∀ (z0 : Int32) (z1 : Int32) (z2 : Int32) (z3 : Int32), va_D (gA q [13]) (w_13 q cI cJ cD z0 z1 z2 z3) := fun _ _ _ _ => gD_of hq [13] rfl rfl rfl (fun k h => ⟨k, h, rfl⟩)
  have hk16 := hts (.fieldLink RX3 16 "LyndonText$NecklaceWalk" "word" "I") (by decide +kernel)
  have hk13 := hts (.fieldLink RX3 13 "LyndonText$NecklaceWalk" "size" "I") (by decide +kernel)
  have hk7 := hts (.fieldLink RX3 7 "LyndonText$NecklaceWalk" "greatest" "I") (by decide +kernel)
  have hk19 := hts (.fieldLink RX3 19 "LyndonText$NecklaceWalk" "root" "I") (by decide +kernel)
  have huX3 : ∀ w ∈ u_ws RX3 TX3 4, w ∈ wsX3_toNextWord := by decide +kernel
  have J93 : ∀ (Ww : Int32) (Wr : Int32), fX3_toNextWord_J93 N Wg Wz Ww Wr = some (r0, Ww9, Wr9) → ∀ (H : Heap) (locs : List Loc), va_P D vwCl (w_13 q cI cJ cD Wg Wz Ww Wr) H → va_S (gA q [13]) s.heap H locs → ∀ ls : Array Slot, lv_has ls 4 [] → W p l e (headSpec wsX3_toNextWord rX3_toNextWord).room s m ([.ref (q 13)] : List Value).toArray below meth c H locs 0 0 (MQ below (gQ D (some (.int r0)) (w_13 q cI cJ cD Wg Wz Ww9 Wr9) (gA q [13])) ([.ref (q 13)] : List Value).toArray s 0 0 (gA q [13])) (F0 m 93 ls []) := by
    intro Ww Wr hf H locs hP hS ls hl
    unfold fX3_toNextWord_J93 at hf
    refine lv_iconst (v := (1 : Int32)) hx hb dX3_toNextWord_93 (by decide) ?_
    obtain ⟨g_1, hf⟩ := gd_some hf
    cases hf
    exact W.zret (ty := .boolean) hx hb hr (isB_nar g_1) (fun t ht hW => ⟨⟨rfl, by rw [ht]; exact hP⟩, hS.F ht⟩) hS.2.2 dX3_toNextWord_94
  have K55 : ∀ (n55 : Nat) (Ww : Int32) (Wr : Int32) (x3 : Int32), fX3_toNextWord_H55 N Wg Wz n55 Ww Wr x3 = some (r0, Ww9, Wr9) → ∀ (H : Heap) (locs : List Loc), va_P D vwCl (w_13 q cI cJ cD Wg Wz Ww Wr) H → va_S (gA q [13]) s.heap H locs → ∀ ls : Array Slot, lv_has ls 4 [(0, .ref (q 13)), (3, .int x3)] → W p l e (headSpec wsX3_toNextWord rX3_toNextWord).room s m ([.ref (q 13)] : List Value).toArray below meth c H locs 0 0 (MQ below (gQ D (some (.int r0)) (w_13 q cI cJ cD Wg Wz Ww9 Wr9) (gA q [13])) ([.ref (q 13)] : List Value).toArray s 0 0 (gA q [13])) (F0 m 55 ls []) := by
    intro n55
    induction n55 with
    | zero =>
      intro Ww Wr x3 hf
      exact nomatch (show (none : Option (Int32 × Int32 × Int32)) = some (r0, Ww9, Wr9) from hf)
    | succ n55 ih55 =>
      intro Ww Wr x3 hf H locs hP hS ls hl
      have hf : fX3_toNextWord_B55 N Wg Wz (fX3_toNextWord_H55 N Wg Wz n55) Ww Wr x3 = some (r0, Ww9, Wr9) := hf
      unfold fX3_toNextWord_B55 at hf
      refine lv_iload_n hx hb dX3_toNextWord_55 rfl (lv_at hl 1 rfl) ?_
      refine lv_aload_n hx hb dX3_toNextWord_56 rfl (lv_at hl 0 rfl) ?_
      refine va_get (D := D) (ci := 3) (v := .int Wz) (C := RX3) (T := TX3) (N := 4) hx hb hts huX3 hown hE.1 hP 0 rfl rfl 1 (by decide) hk13 (fun _ h9 => h9) rfl dX3_toNextWord_57 ?_
      refine lv_icmp_ge (tgt := 93) hx hb dX3_toNextWord_60 (by decide) (fun c_2 => ?_) (fun c_2 => ?_)
      · have hf := (if_pos c_2).symm.trans hf
        exact J93 Ww Wr hf _ _ hP hS _ (lv_sub hl [] rfl)
      · have hf := (if_neg c_2).symm.trans hf
        refine lv_aload_n hx hb dX3_toNextWord_63 rfl (lv_at hl 0 rfl) ?_
        refine lv_aload_n hx hb dX3_toNextWord_64 rfl (lv_at hl 0 rfl) ?_
        refine va_get (D := D) (ci := 3) (v := .int Ww) (C := RX3) (T := TX3) (N := 4) hx hb hts huX3 hown hE.1 hP 0 rfl rfl 2 (by decide) hk16 (fun _ h9 => h9) rfl dX3_toNextWord_65 ?_
        refine lv_aload_n hx hb dX3_toNextWord_68 rfl (lv_at hl 0 rfl) ?_
        refine va_get (D := D) (ci := 3) (v := .int Ww) (C := RX3) (T := TX3) (N := 4) hx hb hts huX3 hown hE.1 hP 0 rfl rfl 2 (by decide) hk16 (fun _ h9 => h9) rfl dX3_toNextWord_69 ?_
        refine lv_iconst (v := (3 : Int32)) hx hb dX3_toNextWord_72 (by decide) ?_
        refine lv_aload_n hx hb dX3_toNextWord_73 rfl (lv_at hl 0 rfl) ?_
        refine va_get (D := D) (ci := 3) (v := .int Wr) (C := RX3) (T := TX3) (N := 4) hx hb hts huX3 hown hE.1 hP 0 rfl rfl 3 (by decide) hk19 (fun _ h9 => h9) rfl dX3_toNextWord_74 ?_
        refine lv_iconst (v := (1 : Int32)) hx hb dX3_toNextWord_77 (by decide) ?_
        refine lv_isub hx hb dX3_toNextWord_78 ?_
        refine lv_imul hx hb dX3_toNextWord_79 ?_
        refine lv_ishr hx hb dX3_toNextWord_80 ?_
        obtain ⟨r81, hc, hf⟩ := bn_some hf
        try dsimp only at hf
        refine g_call0 (ws' := (w_13 q cI cJ cD Wg Wz Ww Wr)) (st1 := [.int r81, .ref (q 13)]) hq [13] [] [.inr 0] (va_runS (As := [.int Ww, .int (Ww >>> (((3 : Int32) * (Wr - (1 : Int32))) &&& 31))]) (rest := [.ref (q 13)]) ⟨hx, hb, hml, hown, hts⟩ (kX3_pack l D cI cJ cD q hq N Ww (Ww >>> (((3 : Int32) * (Wr - (1 : Int32))) &&& 31)) r81 hc) (va_cwS 2 hts gX3_toNextWord_X3_pack rfl rfl rfl (by decide +kernel) ⟨(Nat.le_of_ble_eq_true rfl), (Nat.le_of_ble_eq_true rfl)⟩) ⟨gP_blind, fun U hU hW => ⟨rfl, by rw [hU]; exact hP.sub (ws' := (w_0none q cI cJ cD)) [] rfl, gEv.warm hW hE⟩⟩ rfl rfl hl.1 rfl (lv_room (Nat.le_of_ble_eq_true rfl)) dX3_toNextWord_81 ⟨Nat.zero_le _, Nat.zero_le _⟩) hP hS (gSub rfl) rfl rfl rfl rfl rfl (fun H locs hP hS => ?_)
        refine va_put (D := D) (ci := 3) (v := .int r81) (ty := .int) (C := RX3) (T := TX3) (N := 4) hx hb hts huX3 tyX3 tyX3_ok nmX3 hown hE.1 hP (hDm Wg Wz Ww Wr) hS 0 rfl rfl 2 (by decide) hk16 (fun _ h9 => h9) rfl (by decide +kernel) rfl rfl (Nat.le_of_ble_eq_true rfl) dX3_toNextWord_84 (fun H locs hP _ hS => ?_)
        have hP : va_P D vwCl (w_13 q cI cJ cD Wg Wz r81 Wr) H := hP
        refine lv_iinc (v := (x3 + 1)) (lv' := [(3, .int (x3 + 1)), (0, .ref (q 13))]) hx hb dX3_toNextWord_87 hl (k := 1) rfl rfl (by decide) rfl (fun ls hl => ?_)
        refine lv_goto (tgt := 55) hx hb dX3_toNextWord_90 (by decide) ?_
        exact ih55 r81 Wr (x3 + 1) hf _ _ hP hS _ (lv_sub hl [1, 0] rfl)
  have J35 : ∀ (Ww : Int32) (Wr : Int32) (x1 : Int32) (x2 : Int32), fX3_toNextWord_J35 N Wg Wz Ww Wr x1 x2 = some (r0, Ww9, Wr9) → ∀ (H : Heap) (locs : List Loc), va_P D vwCl (w_13 q cI cJ cD Wg Wz Ww Wr) H → va_S (gA q [13]) s.heap H locs → ∀ ls : Array Slot, lv_has ls 4 [(0, .ref (q 13)), (1, .int x1), (2, .int x2)] → W p l e (headSpec wsX3_toNextWord rX3_toNextWord).room s m ([.ref (q 13)] : List Value).toArray below meth c H locs 0 0 (MQ below (gQ D (some (.int r0)) (w_13 q cI cJ cD Wg Wz Ww9 Wr9) (gA q [13])) ([.ref (q 13)] : List Value).toArray s 0 0 (gA q [13])) (F0 m 35 ls []) := by
    intro Ww Wr x1 x2 hf H locs hP hS ls hl
    unfold fX3_toNextWord_J35 at hf
    refine lv_iload_n hx hb dX3_toNextWord_35 rfl (lv_at hl 2 rfl) ?_
    refine lv_if_ne (tgt := 41) hx hb dX3_toNextWord_36 (by decide) (fun c_3 => ?_) (fun c_3 => ?_)
    · have hf := (if_neg c_3).symm.trans hf
      refine lv_aload_n hx hb dX3_toNextWord_41 rfl (lv_at hl 0 rfl) ?_
      refine lv_iload_n hx hb dX3_toNextWord_42 rfl (lv_at hl 2 rfl) ?_
      refine va_put (D := D) (ci := 3) (v := .int x2) (ty := .int) (C := RX3) (T := TX3) (N := 4) hx hb hts huX3 tyX3 tyX3_ok nmX3 hown hE.1 hP (hDm Wg Wz Ww Wr) hS 0 rfl rfl 3 (by decide) hk19 (fun _ h9 => h9) rfl (by decide +kernel) rfl rfl (Nat.le_of_ble_eq_true rfl) dX3_toNextWord_43 (fun H locs hP _ hS => ?_)
      have hP : va_P D vwCl (w_13 q cI cJ cD Wg Wz Ww x2) H := hP
      refine lv_aload_n hx hb dX3_toNextWord_46 rfl (lv_at hl 0 rfl) ?_
      refine lv_iload_n hx hb dX3_toNextWord_47 rfl (lv_at hl 1 rfl) ?_
      refine lv_iconst (v := (1 : Int32)) hx hb dX3_toNextWord_48 (by decide) ?_
      refine lv_iadd hx hb dX3_toNextWord_49 ?_
      refine va_put (D := D) (ci := 3) (v := .int (x1 + (1 : Int32))) (ty := .int) (C := RX3) (T := TX3) (N := 4) hx hb hts huX3 tyX3 tyX3_ok nmX3 hown hE.1 hP (hDm Wg Wz Ww x2) hS 0 rfl rfl 2 (by decide) hk16 (fun _ h9 => h9) rfl (by decide +kernel) rfl rfl (Nat.le_of_ble_eq_true rfl) dX3_toNextWord_50 (fun H locs hP _ hS => ?_)
      have hP : va_P D vwCl (w_13 q cI cJ cD Wg Wz (x1 + (1 : Int32)) x2) H := hP
      refine lv_iload_n hx hb dX3_toNextWord_53 rfl (lv_at hl 2 rfl) ?_
      refine lv_istore_n (lv' := [(3, .int x2), (0, .ref (q 13)), (1, .int x1), (2, .int x2)]) hx hb dX3_toNextWord_54 rfl hl (by decide) rfl (fun ls hl => ?_)
      exact K55 N (x1 + (1 : Int32)) x2 x2 hf _ _ hP hS _ (lv_sub hl [1, 0] rfl)
    · have hf := (if_pos c_3).symm.trans hf
      refine lv_iconst (v := (0 : Int32)) hx hb dX3_toNextWord_39 (by decide) ?_
      obtain ⟨g_4, hf⟩ := gd_some hf
      cases hf
      exact W.zret (ty := .boolean) hx hb hr (isB_nar g_4) (fun t ht hW => ⟨⟨rfl, by rw [ht]; exact hP⟩, hS.F ht⟩) hS.2.2 dX3_toNextWord_40
  have K10 : ∀ (n10 : Nat) (Ww : Int32) (Wr : Int32) (x1 : Int32) (x2 : Int32), fX3_toNextWord_H10 N Wg Wz n10 Ww Wr x1 x2 = some (r0, Ww9, Wr9) → ∀ (H : Heap) (locs : List Loc), va_P D vwCl (w_13 q cI cJ cD Wg Wz Ww Wr) H → va_S (gA q [13]) s.heap H locs → ∀ ls : Array Slot, lv_has ls 4 [(0, .ref (q 13)), (1, .int x1), (2, .int x2)] → W p l e (headSpec wsX3_toNextWord rX3_toNextWord).room s m ([.ref (q 13)] : List Value).toArray below meth c H locs 0 0 (MQ below (gQ D (some (.int r0)) (w_13 q cI cJ cD Wg Wz Ww9 Wr9) (gA q [13])) ([.ref (q 13)] : List Value).toArray s 0 0 (gA q [13])) (F0 m 10 ls []) := by
    intro n10
    induction n10 with
    | zero =>
      intro Ww Wr x1 x2 hf
      exact nomatch (show (none : Option (Int32 × Int32 × Int32)) = some (r0, Ww9, Wr9) from hf)
    | succ n10 ih10 =>
      intro Ww Wr x1 x2 hf H locs hP hS ls hl
      have hf : fX3_toNextWord_B10 N Wg Wz (fX3_toNextWord_H10 N Wg Wz n10) Ww Wr x1 x2 = some (r0, Ww9, Wr9) := hf
      unfold fX3_toNextWord_B10 at hf
      refine lv_iload_n hx hb dX3_toNextWord_10 rfl (lv_at hl 2 rfl) ?_
      refine lv_if_le (tgt := 35) hx hb dX3_toNextWord_11 (by decide) (fun c_5 => ?_) (fun c_5 => ?_)
      · have hf := (if_pos c_5).symm.trans hf
        exact J35 Ww Wr x1 x2 hf _ _ hP hS _ (lv_sub hl [0, 1, 2] rfl)
      · have hf := (if_neg c_5).symm.trans hf
        refine lv_iload_n hx hb dX3_toNextWord_14 rfl (lv_at hl 1 rfl) ?_
        refine lv_bipush (v := (7 : Int32)) hx hb dX3_toNextWord_15 (by decide) ?_
        refine lv_iand hx hb dX3_toNextWord_17 ?_
        refine lv_aload_n hx hb dX3_toNextWord_18 rfl (lv_at hl 0 rfl) ?_
        refine va_get (D := D) (ci := 3) (v := .int Wg) (C := RX3) (T := TX3) (N := 4) hx hb hts huX3 hown hE.1 hP 0 rfl rfl 0 (by decide) hk7 (fun _ h9 => h9) rfl dX3_toNextWord_19 ?_
        refine lv_icmp_ne (tgt := 35) hx hb dX3_toNextWord_22 (by decide) (fun c_6 => ?_) (fun c_6 => ?_)
        · have hf := (if_neg c_6).symm.trans hf
          exact J35 Ww Wr x1 x2 hf _ _ hP hS _ (lv_sub hl [0, 1, 2] rfl)
        · have hf := (if_pos c_6).symm.trans hf
          refine lv_iload_n hx hb dX3_toNextWord_25 rfl (lv_at hl 1 rfl) ?_
          refine lv_iconst (v := (3 : Int32)) hx hb dX3_toNextWord_26 (by decide) ?_
          refine lv_ishr hx hb dX3_toNextWord_27 ?_
          refine lv_istore_n (lv' := [(1, .int (x1 >>> ((3 : Int32) &&& 31))), (0, .ref (q 13)), (2, .int x2)]) hx hb dX3_toNextWord_28 rfl hl (by decide) rfl (fun ls hl => ?_)
          refine lv_iinc (v := (x2 + (-1 : Int32))) (lv' := [(2, .int (x2 + (-1 : Int32))), (1, .int (x1 >>> ((3 : Int32) &&& 31))), (0, .ref (q 13))]) hx hb dX3_toNextWord_29 hl (k := 2) rfl rfl (by decide) rfl (fun ls hl => ?_)
          refine lv_goto (tgt := 10) hx hb dX3_toNextWord_32 (by decide) ?_
          exact ih10 Ww Wr (x1 >>> ((3 : Int32) &&& 31)) (x2 + (-1 : Int32)) hf _ _ hP hS _ (lv_sub hl [2, 1, 0] rfl)
  unfold fX3_toNextWord at hf
  refine lv_aload_n hx hb dX3_toNextWord_0 rfl (lv_at hl 0 rfl) ?_
  refine va_get (D := D) (ci := 3) (v := .int Ww) (C := RX3) (T := TX3) (N := 4) hx hb hts huX3 hown hE.1 hP 0 rfl rfl 2 (by decide) hk16 (fun _ h9 => h9) rfl dX3_toNextWord_1 ?_
  refine lv_istore_n (lv' := [(1, .int Ww), (0, .ref (q 13))]) hx hb dX3_toNextWord_4 rfl hl (by decide) rfl (fun ls hl => ?_)
  refine lv_aload_n hx hb dX3_toNextWord_5 rfl (lv_at hl 1 rfl) ?_
  refine va_get (D := D) (ci := 3) (v := .int Wz) (C := RX3) (T := TX3) (N := 4) hx hb hts huX3 hown hE.1 hP 0 rfl rfl 1 (by decide) hk13 (fun _ h9 => h9) rfl dX3_toNextWord_6 ?_
  refine lv_istore_n (lv' := [(2, .int Wz), (1, .int Ww), (0, .ref (q 13))]) hx hb dX3_toNextWord_9 rfl hl (by decide) rfl (fun ls hl => ?_)
  exact K10 N Ww Wr Ww Wz hf _ _ hP hS _ (lv_sub hl [2, 1, 0] rfl)
set_option maxHeartbeats 4000000 in
set_option maxRecDepth 100000 in
theorem kX3_toNextNecklace (l : Launch) (D : va_G) (cI cJ cD : ClassId) (q : Nat → Nat) (hq : gInj 14 q) (N : Nat) (Wg : Int32) (Wz : Int32) (Ww : Int32) (Wr : Int32) (r0 : Int32) (Ww9 : Int32) (Wr9 : Int32) (hf : fX3_toNextNecklace N Wg Wz Ww Wr = some (r0, Ww9, Wr9)) : Met l yX3_toNextNecklace wsX3_toNextNecklace rX3_toNextNecklace (gP D cI cJ cD [.ref (q 13)] (w_13 q cI cJ cD Wg Wz Ww Wr)) (gQ D (some (.int r0)) (w_13 q cI cJ cD Wg Wz Ww9 Wr9) (gA q [13])) 0 0 (gA q [13]) := by
  refine Met.ofW (cc := cX3_toNextNecklace) (maxL := 2) (ret := (some .boolean)) (by decide +kernel) rfl ?_
  intro p e s m args below meth c s₁ B hml hv
  obtain ⟨rfl, hP, hE⟩ := hv
  have hx := B.exec
  have hb := B.bytes
  have hr := B.returns
  have hts := atoms_spec (ws := wsX3_toNextNecklace) B.pre
  have hown : s.vm.findClass RX3 = some m.cls := findClass_of_methodNamed B.named
  have hlocks := B.notSynchronized
  have hS : va_S (gA q [13]) s.heap s.heap [] := va_S.rf
  have hl := lv_entry ([.ref (q 13)]) (n := 2) (Nat.le_of_ble_eq_true rfl)
  rw [lg_entry_eq]
  generalize (lg_sl ([.ref (q 13)]) ++ List.replicate (2 - (lg_sl ([.ref (q 13)])).length) Slot.unset).toArray = ls at hl ⊢
  have hl : lv_has ls 2 [(0, .ref (q 13))] := hl
  have hk19 := hts (.fieldLink RX3 19 "LyndonText$NecklaceWalk" "root" "I") (by decide +kernel)
  have hk13 := hts (.fieldLink RX3 13 "LyndonText$NecklaceWalk" "size" "I") (by decide +kernel)
  have huX3 : ∀ w ∈ u_ws RX3 TX3 4, w ∈ wsX3_toNextNecklace := by decide +kernel
  have J42 : ∀ (Ww : Int32) (Wr : Int32), fX3_toNextNecklace_J42 N Wg Wz Ww Wr = some (r0, Ww9, Wr9) → ∀ (H : Heap) (locs : List Loc), va_P D vwCl (w_13 q cI cJ cD Wg Wz Ww Wr) H → va_S (gA q [13]) s.heap H locs → ∀ ls : Array Slot, lv_has ls 2 [] → W p l e (headSpec wsX3_toNextNecklace rX3_toNextNecklace).room s m ([.ref (q 13)] : List Value).toArray below meth c H locs 0 0 (MQ below (gQ D (some (.int r0)) (w_13 q cI cJ cD Wg Wz Ww9 Wr9) (gA q [13])) ([.ref (q 13)] : List Value).toArray s 0 0 (gA q [13])) (F0 m 42 ls []) := by
    intro Ww Wr hf H locs hP hS ls hl
    unfold fX3_toNextNecklace_J42 at hf
    refine lv_iconst (v := (0 : Int32)) hx hb dX3_toNextNecklace_42 (by decide) ?_
    obtain ⟨g_1, hf⟩ := gd_some hf
    cases hf
    exact W.zret (ty := .boolean) hx hb hr (isB_nar g_1) (fun t ht hW => ⟨⟨rfl, by rw [ht]; exact hP⟩, hS.F ht⟩) hS.2.2 dX3_toNextNecklace_43
  have J34 : ∀ (Ww : Int32) (Wr : Int32), fX3_toNextNecklace_J34 N Wg Wz Ww Wr = some (r0, Ww9, Wr9) → ∀ (H : Heap) (locs : List Loc), va_P D vwCl (w_13 q cI cJ cD Wg Wz Ww Wr) H → va_S (gA q [13]) s.heap H locs → ∀ ls : Array Slot, lv_has ls 2 [] → W p l e (headSpec wsX3_toNextNecklace rX3_toNextNecklace).room s m ([.ref (q 13)] : List Value).toArray below meth c H locs 0 0 (MQ below (gQ D (some (.int r0)) (w_13 q cI cJ cD Wg Wz Ww9 Wr9) (gA q [13])) ([.ref (q 13)] : List Value).toArray s 0 0 (gA q [13])) (F0 m 34 ls []) := by
    intro Ww Wr hf H locs hP hS ls hl
    unfold fX3_toNextNecklace_J34 at hf
    refine lv_iconst (v := (1 : Int32)) hx hb dX3_toNextNecklace_34 (by decide) ?_
    obtain ⟨g_2, hf⟩ := gd_some hf
    cases hf
    exact W.zret (ty := .boolean) hx hb hr (isB_nar g_2) (fun t ht hW => ⟨⟨rfl, by rw [ht]; exact hP⟩, hS.F ht⟩) hS.2.2 dX3_toNextNecklace_35
  have K2 : ∀ (n2 : Nat) (Ww : Int32) (Wr : Int32) (x1 : Int32), fX3_toNextNecklace_H2 N Wg Wz n2 Ww Wr x1 = some (r0, Ww9, Wr9) → ∀ (H : Heap) (locs : List Loc), va_P D vwCl (w_13 q cI cJ cD Wg Wz Ww Wr) H → va_S (gA q [13]) s.heap H locs → ∀ ls : Array Slot, lv_has ls 2 [(0, .ref (q 13)), (1, .int x1)] → W p l e (headSpec wsX3_toNextNecklace rX3_toNextNecklace).room s m ([.ref (q 13)] : List Value).toArray below meth c H locs 0 0 (MQ below (gQ D (some (.int r0)) (w_13 q cI cJ cD Wg Wz Ww9 Wr9) (gA q [13])) ([.ref (q 13)] : List Value).toArray s 0 0 (gA q [13])) (F0 m 2 ls []) := by
    intro n2
    induction n2 with
    | zero =>
      intro Ww Wr x1 hf
      exact nomatch (show (none : Option (Int32 × Int32 × Int32)) = some (r0, Ww9, Wr9) from hf)
    | succ n2 ih2 =>
      have J36 : ∀ (Ww : Int32) (Wr : Int32) (x1 : Int32), fX3_toNextNecklace_J36 N Wg Wz (fX3_toNextNecklace_H2 N Wg Wz n2) Ww Wr x1 = some (r0, Ww9, Wr9) → ∀ (H : Heap) (locs : List Loc), va_P D vwCl (w_13 q cI cJ cD Wg Wz Ww Wr) H → va_S (gA q [13]) s.heap H locs → ∀ ls : Array Slot, lv_has ls 2 [(0, .ref (q 13)), (1, .int x1)] → W p l e (headSpec wsX3_toNextNecklace rX3_toNextNecklace).room s m ([.ref (q 13)] : List Value).toArray below meth c H locs 0 0 (MQ below (gQ D (some (.int r0)) (w_13 q cI cJ cD Wg Wz Ww9 Wr9) (gA q [13])) ([.ref (q 13)] : List Value).toArray s 0 0 (gA q [13])) (F0 m 36 ls []) := by
        intro Ww Wr x1 hf H locs hP hS ls hl
        unfold fX3_toNextNecklace_J36 at hf
        refine lv_iinc (v := (x1 + 1)) (lv' := [(1, .int (x1 + 1)), (0, .ref (q 13))]) hx hb dX3_toNextNecklace_36 hl (k := 1) rfl rfl (by decide) rfl (fun ls hl => ?_)
        refine lv_goto (tgt := 2) hx hb dX3_toNextNecklace_39 (by decide) ?_
        exact ih2 Ww Wr (x1 + 1) hf _ _ hP hS _ (lv_sub hl [1, 0] rfl)
      intro Ww Wr x1 hf H locs hP hS ls hl
      have hf : fX3_toNextNecklace_B2 N Wg Wz (fX3_toNextNecklace_H2 N Wg Wz n2) Ww Wr x1 = some (r0, Ww9, Wr9) := hf
      unfold fX3_toNextNecklace_B2 at hf
      refine lv_iload_n hx hb dX3_toNextNecklace_2 rfl (lv_at hl 1 rfl) ?_
      refine lv_ldc (v := (1048576 : Int32)) hx hb hown (hts (.constant RX3 22 (1048576 : Int32)) (by decide +kernel)) dX3_toNextNecklace_3 ?_
      refine lv_icmp_ge (tgt := 42) hx hb dX3_toNextNecklace_5 (by decide) (fun c_3 => ?_) (fun c_3 => ?_)
      · have hf := (if_pos c_3).symm.trans hf
        exact J42 Ww Wr hf _ _ hP hS _ (lv_sub hl [] rfl)
      · have hf := (if_neg c_3).symm.trans hf
        refine lv_aload_n hx hb dX3_toNextNecklace_8 rfl (lv_at hl 0 rfl) ?_
        obtain ⟨⟨r9, Ww9, Wr9⟩, hc, hf⟩ := bn_some hf
        try dsimp only at hf
        refine g_call0 (ws' := (w_13 q cI cJ cD Wg Wz Ww9 Wr9)) (st1 := [.int r9]) hq [13] [13] [.inl 0] (va_runV (As := []) (rest := []) ⟨hx, hb, hml, hown, hts⟩ (kX3_toNextWord l D cI cJ cD q hq N Wg Wz Ww Wr r9 Ww9 Wr9 hc) (cwV 0 hts gX3_toNextNecklace_X3_toNextWord rfl rfl rfl (by decide +kernel) ⟨(Nat.le_of_ble_eq_true rfl), (Nat.le_of_ble_eq_true rfl)⟩) ⟨gP_blind, va_recv hE.1 hP (ci := 3) (q0 := 0) rfl rfl, fun U hU hW => ⟨rfl, by rw [hU]; exact hP.sub (ws' := (w_13 q cI cJ cD Wg Wz Ww Wr)) [0] rfl, gEv.warm hW hE⟩⟩ rfl rfl hl.1 rfl (lv_room (Nat.le_of_ble_eq_true rfl)) dX3_toNextNecklace_9 ⟨Nat.zero_le _, Nat.zero_le _⟩) hP hS (gSub rfl) rfl rfl rfl rfl rfl (fun H locs hP hS => ?_)
        refine lv_if_eq (tgt := 42) hx hb dX3_toNextNecklace_12 (by decide) (fun c_4 => ?_) (fun c_4 => ?_)
        · have hf := (if_pos c_4).symm.trans hf
          exact J42 Ww9 Wr9 hf _ _ hP hS _ (lv_sub hl [] rfl)
        · have hf := (if_neg c_4).symm.trans hf
          refine lv_aload_n hx hb dX3_toNextNecklace_15 rfl (lv_at hl 0 rfl) ?_
          refine va_get (D := D) (ci := 3) (v := .int Wr9) (C := RX3) (T := TX3) (N := 4) hx hb hts huX3 hown hE.1 hP 0 rfl rfl 3 (by decide) hk19 (fun _ h9 => h9) rfl dX3_toNextNecklace_16 ?_
          refine lv_if_le (tgt := 36) hx hb dX3_toNextNecklace_19 (by decide) (fun c_5 => ?_) (fun c_5 => ?_)
          · have hf := (if_pos c_5).symm.trans hf
            exact J36 Ww9 Wr9 x1 hf _ _ hP hS _ (lv_sub hl [0, 1] rfl)
          · have hf := (if_neg c_5).symm.trans hf
            refine lv_aload_n hx hb dX3_toNextNecklace_22 rfl (lv_at hl 0 rfl) ?_
            refine va_get (D := D) (ci := 3) (v := .int Wz) (C := RX3) (T := TX3) (N := 4) hx hb hts huX3 hown hE.1 hP 0 rfl rfl 1 (by decide) hk13 (fun _ h9 => h9) rfl dX3_toNextNecklace_23 ?_
            refine lv_aload_n hx hb dX3_toNextNecklace_26 rfl (lv_at hl 0 rfl) ?_
            refine va_get (D := D) (ci := 3) (v := .int Wr9) (C := RX3) (T := TX3) (N := 4) hx hb hts huX3 hown hE.1 hP 0 rfl rfl 3 (by decide) hk19 (fun _ h9 => h9) rfl dX3_toNextNecklace_27 ?_
            obtain ⟨g_6, hf⟩ := gd_some hf
            refine lv_irem hx hb dX3_toNextNecklace_30 (nz_ne g_6) ?_
            refine lv_if_ne (tgt := 36) hx hb dX3_toNextNecklace_31 (by decide) (fun c_7 => ?_) (fun c_7 => ?_)
            · have hf := (if_neg c_7).symm.trans hf
              exact J36 Ww9 Wr9 x1 hf _ _ hP hS _ (lv_sub hl [0, 1] rfl)
            · have hf := (if_pos c_7).symm.trans hf
              exact J34 Ww9 Wr9 hf _ _ hP hS _ (lv_sub hl [] rfl)
  unfold fX3_toNextNecklace at hf
  refine lv_iconst (v := (0 : Int32)) hx hb dX3_toNextNecklace_0 (by decide) ?_
  refine lv_istore_n (lv' := [(1, .int (0 : Int32)), (0, .ref (q 13))]) hx hb dX3_toNextNecklace_1 rfl hl (by decide) rfl (fun ls hl => ?_)
  exact K2 N Ww Wr (0 : Int32) hf _ _ hP hS _ (lv_sub hl [1, 0] rfl)
set_option maxHeartbeats 4000000 in
set_option maxRecDepth 100000 in
theorem kX4_moebius (l : Launch) (D : va_G) (cI cJ cD : ClassId) (q : Nat → Nat) (hq : gInj 14 q) (N : Nat) (p0 : Int32) (r0 : Int32) (hf : fX4_moebius N p0 = some r0) : Met l yX4_moebius wsX4_moebius rX4_moebius (gP D cI cJ cD [.int p0] (w_0none q cI cJ cD)) (gQ D (some (.int r0)) (w_0none q cI cJ cD) (gA q [])) 0 0 (gA q []) := by
  refine Met.ofW (cc := cX4_moebius) (maxL := 4) (ret := (some .int)) (by decide +kernel) rfl ?_
  intro p e s m args below meth c s₁ B hml hv
  obtain ⟨rfl, hP, hE⟩ := hv
  have hx := B.exec
  have hb := B.bytes
  have hr := B.returns
  have hts := atoms_spec (ws := wsX4_moebius) B.pre
  have hown : s.vm.findClass RX4 = some m.cls := findClass_of_methodNamed B.named
  have hlocks := B.notSynchronized
  have hS : va_S (gA q []) s.heap s.heap [] := va_S.rf
  have hl := lv_entry ([.int p0]) (n := 4) (Nat.le_of_ble_eq_true rfl)
  rw [lg_entry_eq]
  generalize (lg_sl ([.int p0]) ++ List.replicate (4 - (lg_sl ([.int p0])).length) Slot.unset).toArray = ls at hl ⊢
  have hl : lv_has ls 4 [(0, .int p0)] := hl
  have J38 : ∀ (x2 : Int32), fX4_moebius_J38 N x2 = some r0 → ∀ (H : Heap) (locs : List Loc), va_P D vwCl (w_0none q cI cJ cD) H → va_S (gA q []) s.heap H locs → ∀ ls : Array Slot, lv_has ls 4 [(2, .int x2)] → W p l e (headSpec wsX4_moebius rX4_moebius).room s m ([.int p0] : List Value).toArray below meth c H locs 0 0 (MQ below (gQ D (some (.int r0)) (w_0none q cI cJ cD) (gA q [])) ([.int p0] : List Value).toArray s 0 0 (gA q [])) (F0 m 38 ls []) := by
    intro x2 hf H locs hP hS ls hl
    unfold fX4_moebius_J38 at hf
    refine lv_iload_n hx hb dX4_moebius_38 rfl (lv_at hl 0 rfl) ?_
    cases hf
    exact W.iret hx hb hr (fun t ht hW => ⟨⟨rfl, by rw [ht]; exact hP⟩, hS.F ht⟩) hS.2.2 dX4_moebius_39
  have J30 : ∀ (_ : Unit), fX4_moebius_J30 N = some r0 → ∀ (H : Heap) (locs : List Loc), va_P D vwCl (w_0none q cI cJ cD) H → va_S (gA q []) s.heap H locs → ∀ ls : Array Slot, lv_has ls 4 [] → W p l e (headSpec wsX4_moebius rX4_moebius).room s m ([.int p0] : List Value).toArray below meth c H locs 0 0 (MQ below (gQ D (some (.int r0)) (w_0none q cI cJ cD) (gA q [])) ([.int p0] : List Value).toArray s 0 0 (gA q [])) (F0 m 30 ls []) := by
    intro _ hf H locs hP hS ls hl
    unfold fX4_moebius_J30 at hf
    refine lv_iconst (v := (0 : Int32)) hx hb dX4_moebius_30 (by decide) ?_
    cases hf
    exact W.iret hx hb hr (fun t ht hW => ⟨⟨rfl, by rw [ht]; exact hP⟩, hS.F ht⟩) hS.2.2 dX4_moebius_31
  have K6 : ∀ (n6 : Nat) (x0 : Int32) (x1 : Int32) (x2 : Int32) (x3 : Int32), fX4_moebius_H6 N n6 x0 x1 x2 x3 = some r0 → ∀ (H : Heap) (locs : List Loc), va_P D vwCl (w_0none q cI cJ cD) H → va_S (gA q []) s.heap H locs → ∀ ls : Array Slot, lv_has ls 4 [(0, .int x0), (1, .int x1), (2, .int x2), (3, .int x3)] → W p l e (headSpec wsX4_moebius rX4_moebius).room s m ([.int p0] : List Value).toArray below meth c H locs 0 0 (MQ below (gQ D (some (.int r0)) (w_0none q cI cJ cD) (gA q [])) ([.int p0] : List Value).toArray s 0 0 (gA q [])) (F0 m 6 ls []) := by
    intro n6
    induction n6 with
    | zero =>
      intro x0 x1 x2 x3 hf
      exact nomatch (show (none : Option Int32) = some r0 from hf)
    | succ n6 ih6 =>
      have J32 : ∀ (x0 : Int32) (x1 : Int32) (x2 : Int32) (x3 : Int32), fX4_moebius_J32 N (fX4_moebius_H6 N n6) x0 x1 x2 x3 = some r0 → ∀ (H : Heap) (locs : List Loc), va_P D vwCl (w_0none q cI cJ cD) H → va_S (gA q []) s.heap H locs → ∀ ls : Array Slot, lv_has ls 4 [(0, .int x0), (1, .int x1), (2, .int x2), (3, .int x3)] → W p l e (headSpec wsX4_moebius rX4_moebius).room s m ([.int p0] : List Value).toArray below meth c H locs 0 0 (MQ below (gQ D (some (.int r0)) (w_0none q cI cJ cD) (gA q [])) ([.int p0] : List Value).toArray s 0 0 (gA q [])) (F0 m 32 ls []) := by
        intro x0 x1 x2 x3 hf H locs hP hS ls hl
        unfold fX4_moebius_J32 at hf
        refine lv_iinc (v := (x3 + 1)) (lv' := [(3, .int (x3 + 1)), (0, .int x0), (1, .int x1), (2, .int x2)]) hx hb dX4_moebius_32 hl (k := 3) rfl rfl (by decide) rfl (fun ls hl => ?_)
        refine lv_goto (tgt := 6) hx hb dX4_moebius_35 (by decide) ?_
        exact ih6 x0 x1 x2 (x3 + 1) hf _ _ hP hS _ (lv_sub hl [1, 2, 3, 0] rfl)
      intro x0 x1 x2 x3 hf H locs hP hS ls hl
      have hf : fX4_moebius_B6 N (fX4_moebius_H6 N n6) x0 x1 x2 x3 = some r0 := hf
      unfold fX4_moebius_B6 at hf
      refine lv_iload_n hx hb dX4_moebius_6 rfl (lv_at hl 3 rfl) ?_
      refine lv_iload_n hx hb dX4_moebius_7 rfl (lv_at hl 0 rfl) ?_
      refine lv_icmp_gt (tgt := 38) hx hb dX4_moebius_8 (by decide) (fun c_1 => ?_) (fun c_1 => ?_)
      · have hf := (if_pos c_1).symm.trans hf
        exact J38 x2 hf _ _ hP hS _ (lv_sub hl [2] rfl)
      · have hf := (if_neg c_1).symm.trans hf
        refine lv_iload_n hx hb dX4_moebius_11 rfl (lv_at hl 1 rfl) ?_
        refine lv_iload_n hx hb dX4_moebius_12 rfl (lv_at hl 3 rfl) ?_
        obtain ⟨g_2, hf⟩ := gd_some hf
        refine lv_irem hx hb dX4_moebius_13 (nz_ne g_2) ?_
        refine lv_if_ne (tgt := 32) hx hb dX4_moebius_14 (by decide) (fun c_3 => ?_) (fun c_3 => ?_)
        · have hf := (if_neg c_3).symm.trans hf
          exact J32 x0 x1 x2 x3 hf _ _ hP hS _ (lv_sub hl [0, 1, 2, 3] rfl)
        · have hf := (if_pos c_3).symm.trans hf
          refine lv_iload_n hx hb dX4_moebius_17 rfl (lv_at hl 1 rfl) ?_
          refine lv_iload_n hx hb dX4_moebius_18 rfl (lv_at hl 3 rfl) ?_
          obtain ⟨g_4, hf⟩ := gd_some hf
          refine lv_idiv hx hb dX4_moebius_19 (nz_ne g_4) ?_
          refine lv_istore_n (lv' := [(1, .int (x1 / x3)), (0, .int x0), (2, .int x2), (3, .int x3)]) hx hb dX4_moebius_20 rfl hl (by decide) rfl (fun ls hl => ?_)
          refine lv_iload_n hx hb dX4_moebius_21 rfl (lv_at hl 2 rfl) ?_
          refine lv_ineg hx hb dX4_moebius_22 ?_
          refine lv_istore_n (lv' := [(2, .int (-x2)), (1, .int (x1 / x3)), (0, .int x0), (3, .int x3)]) hx hb dX4_moebius_23 rfl hl (by decide) rfl (fun ls hl => ?_)
          refine lv_iload_n hx hb dX4_moebius_24 rfl (lv_at hl 1 rfl) ?_
          refine lv_iload_n hx hb dX4_moebius_25 rfl (lv_at hl 3 rfl) ?_
          obtain ⟨g_5, hf⟩ := gd_some hf
          refine lv_irem hx hb dX4_moebius_26 (nz_ne g_5) ?_
          refine lv_if_ne (tgt := 32) hx hb dX4_moebius_27 (by decide) (fun c_6 => ?_) (fun c_6 => ?_)
          · have hf := (if_neg c_6).symm.trans hf
            exact J32 x0 (x1 / x3) (-x2) x3 hf _ _ hP hS _ (lv_sub hl [2, 1, 0, 3] rfl)
          · have hf := (if_pos c_6).symm.trans hf
            exact J30 () hf _ _ hP hS _ (lv_sub hl [] rfl)
  unfold fX4_moebius at hf
  refine lv_iload_n hx hb dX4_moebius_0 rfl (lv_at hl 0 rfl) ?_
  refine lv_istore_n (lv' := [(1, .int p0), (0, .int p0)]) hx hb dX4_moebius_1 rfl hl (by decide) rfl (fun ls hl => ?_)
  refine lv_iconst (v := (1 : Int32)) hx hb dX4_moebius_2 (by decide) ?_
  refine lv_istore_n (lv' := [(2, .int (1 : Int32)), (1, .int p0), (0, .int p0)]) hx hb dX4_moebius_3 rfl hl (by decide) rfl (fun ls hl => ?_)
  refine lv_iconst (v := (2 : Int32)) hx hb dX4_moebius_4 (by decide) ?_
  refine lv_istore_n (lv' := [(3, .int (2 : Int32)), (2, .int (1 : Int32)), (1, .int p0), (0, .int p0)]) hx hb dX4_moebius_5 rfl hl (by decide) rfl (fun ls hl => ?_)
  exact K6 N p0 p0 (1 : Int32) (2 : Int32) hf _ _ hP hS _ (lv_sub hl [3, 2, 1, 0] rfl)
set_option maxHeartbeats 4000000 in
set_option maxRecDepth 100000 in
theorem kX4_lyndonCount (l : Launch) (D : va_G) (cI cJ cD : ClassId) (q : Nat → Nat) (hq : gInj 14 q) (N : Nat) (p0 : Int32) (p1 : Int32) (r0 : Int64) (hf : fX4_lyndonCount N p0 p1 = some r0) : Met l yX4_lyndonCount wsX4_lyndonCount rX4_lyndonCount (gP D cI cJ cD [.int p0, .int p1] (w_0none q cI cJ cD)) (gQ D (some (.long r0)) (w_0none q cI cJ cD) (gA q [])) 0 0 (gA q []) := by
  refine Met.ofW (cc := cX4_lyndonCount) (maxL := 5) (ret := (some .long)) (by decide +kernel) rfl ?_
  intro p e s m args below meth c s₁ B hml hv
  obtain ⟨rfl, hP, hE⟩ := hv
  have hx := B.exec
  have hb := B.bytes
  have hr := B.returns
  have hts := atoms_spec (ws := wsX4_lyndonCount) B.pre
  have hown : s.vm.findClass RX4 = some m.cls := findClass_of_methodNamed B.named
  have hlocks := B.notSynchronized
  have hS : va_S (gA q []) s.heap s.heap [] := va_S.rf
  have hl := lv_entry ([.int p0, .int p1]) (n := 5) (Nat.le_of_ble_eq_true rfl)
  rw [lg_entry_eq]
  generalize (lg_sl ([.int p0, .int p1]) ++ List.replicate (5 - (lg_sl ([.int p0, .int p1])).length) Slot.unset).toArray = ls at hl ⊢
  have hl : lv_has ls 5 [(0, .int p0), (1, .int p1)] := hl
  have J54 : ∀ (y0 : Int64), fX4_lyndonCount_J54 N y0 = some r0 → ∀ (H : Heap) (locs : List Loc), va_P D vwCl (w_0none q cI cJ cD) H → va_S (gA q []) s.heap H locs → ∀ ls : Array Slot, lv_has ls 5 [] → W p l e (headSpec wsX4_lyndonCount rX4_lyndonCount).room s m ([.int p0, .int p1] : List Value).toArray below meth c H locs 0 0 (MQ below (gQ D (some (.long r0)) (w_0none q cI cJ cD) (gA q [])) ([.int p0, .int p1] : List Value).toArray s 0 0 (gA q [])) (F0 m 54 ls [.long y0]) := by
    intro y0 hf H locs hP hS ls hl
    unfold fX4_lyndonCount_J54 at hf
    cases hf
    exact W.lret hx hb hr (fun t ht hW => ⟨⟨rfl, by rw [ht]; exact hP⟩, hS.F ht⟩) hS.2.2 dX4_lyndonCount_54
  have J42 : ∀ (x1 : Int32) (x2 : Int64), fX4_lyndonCount_J42 N x1 x2 = some r0 → ∀ (H : Heap) (locs : List Loc), va_P D vwCl (w_0none q cI cJ cD) H → va_S (gA q []) s.heap H locs → ∀ ls : Array Slot, lv_has ls 5 [(1, .int x1), (2, .long x2)] → W p l e (headSpec wsX4_lyndonCount rX4_lyndonCount).room s m ([.int p0, .int p1] : List Value).toArray below meth c H locs 0 0 (MQ below (gQ D (some (.long r0)) (w_0none q cI cJ cD) (gA q [])) ([.int p0, .int p1] : List Value).toArray s 0 0 (gA q [])) (F0 m 42 ls []) := by
    intro x1 x2 hf H locs hP hS ls hl
    unfold fX4_lyndonCount_J42 at hf
    refine lv_iload_n hx hb dX4_lyndonCount_42 rfl (lv_at hl 0 rfl) ?_
    refine lv_if_le (tgt := 53) hx hb dX4_lyndonCount_43 (by decide) (fun c_1 => ?_) (fun c_1 => ?_)
    · have hf := (if_pos c_1).symm.trans hf
      refine lv_lconst (v := (0 : Int64)) hx hb dX4_lyndonCount_53 (by decide) ?_
      exact J54 (0 : Int64) hf _ _ hP hS _ (lv_sub hl [] rfl)
    · have hf := (if_neg c_1).symm.trans hf
      refine lv_lload_n hx hb dX4_lyndonCount_46 rfl (lv_at hl 1 rfl) ?_
      refine lv_iload_n hx hb dX4_lyndonCount_47 rfl (lv_at hl 0 rfl) ?_
      refine lv_i2l (v := (x1).toInt64) hx hb dX4_lyndonCount_48 rfl ?_
      obtain ⟨g_2, hf⟩ := gd_some hf
      refine lv_ldiv hx hb dX4_lyndonCount_49 (nzL_ne g_2) ?_
      refine lv_goto (tgt := 54) hx hb dX4_lyndonCount_50 (by decide) ?_
      exact J54 (x2 / (x1).toInt64) hf _ _ hP hS _ (lv_sub hl [] rfl)
  have K5 : ∀ (n5 : Nat) (x0 : Int32) (x1 : Int32) (x2 : Int64) (x4 : Int32), fX4_lyndonCount_H5 N n5 x0 x1 x2 x4 = some r0 → ∀ (H : Heap) (locs : List Loc), va_P D vwCl (w_0none q cI cJ cD) H → va_S (gA q []) s.heap H locs → ∀ ls : Array Slot, lv_has ls 5 [(0, .int x0), (1, .int x1), (2, .long x2), (4, .int x4)] → W p l e (headSpec wsX4_lyndonCount rX4_lyndonCount).room s m ([.int p0, .int p1] : List Value).toArray below meth c H locs 0 0 (MQ below (gQ D (some (.long r0)) (w_0none q cI cJ cD) (gA q [])) ([.int p0, .int p1] : List Value).toArray s 0 0 (gA q [])) (F0 m 5 ls []) := by
    intro n5
    induction n5 with
    | zero =>
      intro x0 x1 x2 x4 hf
      exact nomatch (show (none : Option Int64) = some r0 from hf)
    | succ n5 ih5 =>
      have J36 : ∀ (x0 : Int32) (x1 : Int32) (x2 : Int64) (x4 : Int32), fX4_lyndonCount_J36 N (fX4_lyndonCount_H5 N n5) x0 x1 x2 x4 = some r0 → ∀ (H : Heap) (locs : List Loc), va_P D vwCl (w_0none q cI cJ cD) H → va_S (gA q []) s.heap H locs → ∀ ls : Array Slot, lv_has ls 5 [(0, .int x0), (1, .int x1), (2, .long x2), (4, .int x4)] → W p l e (headSpec wsX4_lyndonCount rX4_lyndonCount).room s m ([.int p0, .int p1] : List Value).toArray below meth c H locs 0 0 (MQ below (gQ D (some (.long r0)) (w_0none q cI cJ cD) (gA q [])) ([.int p0, .int p1] : List Value).toArray s 0 0 (gA q [])) (F0 m 36 ls []) := by
        intro x0 x1 x2 x4 hf H locs hP hS ls hl
        unfold fX4_lyndonCount_J36 at hf
        refine lv_iinc (v := (x4 + 1)) (lv' := [(4, .int (x4 + 1)), (0, .int x0), (1, .int x1), (2, .long x2)]) hx hb dX4_lyndonCount_36 hl (k := 3) rfl rfl (by decide) rfl (fun ls hl => ?_)
        refine lv_goto (tgt := 5) hx hb dX4_lyndonCount_39 (by decide) ?_
        exact ih5 x0 x1 x2 (x4 + 1) hf _ _ hP hS _ (lv_sub hl [1, 2, 3, 0] rfl)
      intro x0 x1 x2 x4 hf H locs hP hS ls hl
      have hf : fX4_lyndonCount_B5 N (fX4_lyndonCount_H5 N n5) x0 x1 x2 x4 = some r0 := hf
      unfold fX4_lyndonCount_B5 at hf
      refine lv_iload hx hb dX4_lyndonCount_5 (lv_at hl 3 rfl) ?_
      refine lv_iload_n hx hb dX4_lyndonCount_7 rfl (lv_at hl 1 rfl) ?_
      refine lv_icmp_gt (tgt := 42) hx hb dX4_lyndonCount_8 (by decide) (fun c_3 => ?_) (fun c_3 => ?_)
      · have hf := (if_pos c_3).symm.trans hf
        exact J42 x1 x2 hf _ _ hP hS _ (lv_sub hl [1, 2] rfl)
      · have hf := (if_neg c_3).symm.trans hf
        refine lv_iload_n hx hb dX4_lyndonCount_11 rfl (lv_at hl 1 rfl) ?_
        refine lv_iload hx hb dX4_lyndonCount_12 (lv_at hl 3 rfl) ?_
        obtain ⟨g_4, hf⟩ := gd_some hf
        refine lv_irem hx hb dX4_lyndonCount_14 (nz_ne g_4) ?_
        refine lv_if_ne (tgt := 36) hx hb dX4_lyndonCount_15 (by decide) (fun c_5 => ?_) (fun c_5 => ?_)
        · have hf := (if_neg c_5).symm.trans hf
          exact J36 x0 x1 x2 x4 hf _ _ hP hS _ (lv_sub hl [0, 1, 2, 3] rfl)
        · have hf := (if_pos c_5).symm.trans hf
          refine lv_lload_n hx hb dX4_lyndonCount_18 rfl (lv_at hl 2 rfl) ?_
          refine lv_iload hx hb dX4_lyndonCount_19 (lv_at hl 3 rfl) ?_
          obtain ⟨r21, hc, hf⟩ := bn_some hf
          try dsimp only at hf
          refine g_call0 (ws' := (w_0none q cI cJ cD)) (st1 := [.int r21, .long x2]) hq [] [] [] (va_runS (As := [.int x4]) (rest := [.long x2]) ⟨hx, hb, hml, hown, hts⟩ (kX4_moebius l D cI cJ cD q hq N x4 r21 hc) (va_cwS 1 hts gX4_lyndonCount_X4_moebius rfl rfl rfl (by decide +kernel) ⟨(Nat.le_of_ble_eq_true rfl), (Nat.le_of_ble_eq_true rfl)⟩) ⟨gP_blind, fun U hU hW => ⟨rfl, by rw [hU]; exact hP.sub (ws' := (w_0none q cI cJ cD)) [] rfl, gEv.warm hW hE⟩⟩ rfl rfl hl.1 rfl (lv_room (Nat.le_of_ble_eq_true rfl)) dX4_lyndonCount_21 ⟨Nat.zero_le _, Nat.zero_le _⟩) hP hS (gSub rfl) rfl rfl rfl rfl rfl (fun H locs hP hS => ?_)
          refine lv_i2l (v := (r21).toInt64) hx hb dX4_lyndonCount_24 rfl ?_
          refine lv_iload_n hx hb dX4_lyndonCount_25 rfl (lv_at hl 0 rfl) ?_
          refine lv_iload_n hx hb dX4_lyndonCount_26 rfl (lv_at hl 1 rfl) ?_
          refine lv_iload hx hb dX4_lyndonCount_27 (lv_at hl 3 rfl) ?_
          obtain ⟨g_6, hf⟩ := gd_some hf
          refine lv_idiv hx hb dX4_lyndonCount_29 (nz_ne g_6) ?_
          obtain ⟨r30, hc, hf⟩ := bn_some hf
          try dsimp only at hf
          refine g_call0 (ws' := (w_0none q cI cJ cD)) (st1 := [.long r30, .long ((r21).toInt64), .long x2]) hq [] [] [] (va_runS (As := [.int x0, .int (x1 / x4)]) (rest := [.long ((r21).toInt64), .long x2]) ⟨hx, hb, hml, hown, hts⟩ (kX4_power l D cI cJ cD q hq N x0 (x1 / x4) r30 hc) (va_cwS 2 hts gX4_lyndonCount_X4_power rfl rfl rfl (by decide +kernel) ⟨(Nat.le_of_ble_eq_true rfl), (Nat.le_of_ble_eq_true rfl)⟩) ⟨gP_blind, fun U hU hW => ⟨rfl, by rw [hU]; exact hP.sub (ws' := (w_0none q cI cJ cD)) [] rfl, gEv.warm hW hE⟩⟩ rfl rfl hl.1 rfl (lv_room (Nat.le_of_ble_eq_true rfl)) dX4_lyndonCount_30 ⟨Nat.zero_le _, Nat.zero_le _⟩) hP hS (gSub rfl) rfl rfl rfl rfl rfl (fun H locs hP hS => ?_)
          refine lv_lmul hx hb dX4_lyndonCount_33 ?_
          refine lv_ladd hx hb dX4_lyndonCount_34 ?_
          refine lv_lstore_n (lv' := [(2, .long (x2 + ((r21).toInt64 * r30))), (0, .int x0), (1, .int x1), (4, .int x4)]) hx hb dX4_lyndonCount_35 rfl hl (by decide) rfl (fun ls hl => ?_)
          exact J36 x0 x1 (x2 + ((r21).toInt64 * r30)) x4 hf _ _ hP hS _ (lv_sub hl [1, 2, 0, 3] rfl)
  unfold fX4_lyndonCount at hf
  refine lv_lconst (v := (0 : Int64)) hx hb dX4_lyndonCount_0 (by decide) ?_
  refine lv_lstore_n (lv' := [(2, .long (0 : Int64)), (0, .int p0), (1, .int p1)]) hx hb dX4_lyndonCount_1 rfl hl (by decide) rfl (fun ls hl => ?_)
  refine lv_iconst (v := (1 : Int32)) hx hb dX4_lyndonCount_2 (by decide) ?_
  refine lv_istore (lv' := [(4, .int (1 : Int32)), (2, .long (0 : Int64)), (0, .int p0), (1, .int p1)]) hx hb dX4_lyndonCount_3 hl (by decide) rfl (fun ls hl => ?_)
  exact K5 N p0 p1 (0 : Int64) (1 : Int32) hf _ _ hP hS _ (lv_sub hl [2, 3, 1, 0] rfl)
set_option maxHeartbeats 4000000 in
set_option maxRecDepth 100000 in
theorem kX4_necklaceCount (l : Launch) (D : va_G) (cI cJ cD : ClassId) (q : Nat → Nat) (hq : gInj 14 q) (N : Nat) (p0 : Int32) (p1 : Int32) (r0 : Int64) (hf : fX4_necklaceCount N p0 p1 = some r0) : Met l yX4_necklaceCount wsX4_necklaceCount rX4_necklaceCount (gP D cI cJ cD [.int p0, .int p1] (w_0none q cI cJ cD)) (gQ D (some (.long r0)) (w_0none q cI cJ cD) (gA q [])) 0 0 (gA q []) := by
  refine Met.ofW (cc := cX4_necklaceCount) (maxL := 5) (ret := (some .long)) (by decide +kernel) rfl ?_
  intro p e s m args below meth c s₁ B hml hv
  obtain ⟨rfl, hP, hE⟩ := hv
  have hx := B.exec
  have hb := B.bytes
  have hr := B.returns
  have hts := atoms_spec (ws := wsX4_necklaceCount) B.pre
  have hown : s.vm.findClass RX4 = some m.cls := findClass_of_methodNamed B.named
  have hlocks := B.notSynchronized
  have hS : va_S (gA q []) s.heap s.heap [] := va_S.rf
  have hl := lv_entry ([.int p0, .int p1]) (n := 5) (Nat.le_of_ble_eq_true rfl)
  rw [lg_entry_eq]
  generalize (lg_sl ([.int p0, .int p1]) ++ List.replicate (5 - (lg_sl ([.int p0, .int p1])).length) Slot.unset).toArray = ls at hl ⊢
  have hl : lv_has ls 5 [(0, .int p0), (1, .int p1)] := hl
  have J33 : ∀ (x2 : Int64), fX4_necklaceCount_J33 N x2 = some r0 → ∀ (H : Heap) (locs : List Loc), va_P D vwCl (w_0none q cI cJ cD) H → va_S (gA q []) s.heap H locs → ∀ ls : Array Slot, lv_has ls 5 [(2, .long x2)] → W p l e (headSpec wsX4_necklaceCount rX4_necklaceCount).room s m ([.int p0, .int p1] : List Value).toArray below meth c H locs 0 0 (MQ below (gQ D (some (.long r0)) (w_0none q cI cJ cD) (gA q [])) ([.int p0, .int p1] : List Value).toArray s 0 0 (gA q [])) (F0 m 33 ls []) := by
    intro x2 hf H locs hP hS ls hl
    unfold fX4_necklaceCount_J33 at hf
    refine lv_lload_n hx hb dX4_necklaceCount_33 rfl (lv_at hl 0 rfl) ?_
    cases hf
    exact W.lret hx hb hr (fun t ht hW => ⟨⟨rfl, by rw [ht]; exact hP⟩, hS.F ht⟩) hS.2.2 dX4_necklaceCount_34
  have K5 : ∀ (n5 : Nat) (x0 : Int32) (x1 : Int32) (x2 : Int64) (x4 : Int32), fX4_necklaceCount_H5 N n5 x0 x1 x2 x4 = some r0 → ∀ (H : Heap) (locs : List Loc), va_P D vwCl (w_0none q cI cJ cD) H → va_S (gA q []) s.heap H locs → ∀ ls : Array Slot, lv_has ls 5 [(0, .int x0), (1, .int x1), (2, .long x2), (4, .int x4)] → W p l e (headSpec wsX4_necklaceCount rX4_necklaceCount).room s m ([.int p0, .int p1] : List Value).toArray below meth c H locs 0 0 (MQ below (gQ D (some (.long r0)) (w_0none q cI cJ cD) (gA q [])) ([.int p0, .int p1] : List Value).toArray s 0 0 (gA q [])) (F0 m 5 ls []) := by
    intro n5
    induction n5 with
    | zero =>
      intro x0 x1 x2 x4 hf
      exact nomatch (show (none : Option Int64) = some r0 from hf)
    | succ n5 ih5 =>
      have J27 : ∀ (x0 : Int32) (x1 : Int32) (x2 : Int64) (x4 : Int32), fX4_necklaceCount_J27 N (fX4_necklaceCount_H5 N n5) x0 x1 x2 x4 = some r0 → ∀ (H : Heap) (locs : List Loc), va_P D vwCl (w_0none q cI cJ cD) H → va_S (gA q []) s.heap H locs → ∀ ls : Array Slot, lv_has ls 5 [(0, .int x0), (1, .int x1), (2, .long x2), (4, .int x4)] → W p l e (headSpec wsX4_necklaceCount rX4_necklaceCount).room s m ([.int p0, .int p1] : List Value).toArray below meth c H locs 0 0 (MQ below (gQ D (some (.long r0)) (w_0none q cI cJ cD) (gA q [])) ([.int p0, .int p1] : List Value).toArray s 0 0 (gA q [])) (F0 m 27 ls []) := by
        intro x0 x1 x2 x4 hf H locs hP hS ls hl
        unfold fX4_necklaceCount_J27 at hf
        refine lv_iinc (v := (x4 + 1)) (lv' := [(4, .int (x4 + 1)), (0, .int x0), (1, .int x1), (2, .long x2)]) hx hb dX4_necklaceCount_27 hl (k := 3) rfl rfl (by decide) rfl (fun ls hl => ?_)
        refine lv_goto (tgt := 5) hx hb dX4_necklaceCount_30 (by decide) ?_
        exact ih5 x0 x1 x2 (x4 + 1) hf _ _ hP hS _ (lv_sub hl [1, 2, 3, 0] rfl)
      intro x0 x1 x2 x4 hf H locs hP hS ls hl
      have hf : fX4_necklaceCount_B5 N (fX4_necklaceCount_H5 N n5) x0 x1 x2 x4 = some r0 := hf
      unfold fX4_necklaceCount_B5 at hf
      refine lv_iload hx hb dX4_necklaceCount_5 (lv_at hl 3 rfl) ?_
      refine lv_iload_n hx hb dX4_necklaceCount_7 rfl (lv_at hl 1 rfl) ?_
      refine lv_icmp_gt (tgt := 33) hx hb dX4_necklaceCount_8 (by decide) (fun c_1 => ?_) (fun c_1 => ?_)
      · have hf := (if_pos c_1).symm.trans hf
        exact J33 x2 hf _ _ hP hS _ (lv_sub hl [2] rfl)
      · have hf := (if_neg c_1).symm.trans hf
        refine lv_iload_n hx hb dX4_necklaceCount_11 rfl (lv_at hl 1 rfl) ?_
        refine lv_iload hx hb dX4_necklaceCount_12 (lv_at hl 3 rfl) ?_
        obtain ⟨g_2, hf⟩ := gd_some hf
        refine lv_irem hx hb dX4_necklaceCount_14 (nz_ne g_2) ?_
        refine lv_if_ne (tgt := 27) hx hb dX4_necklaceCount_15 (by decide) (fun c_3 => ?_) (fun c_3 => ?_)
        · have hf := (if_neg c_3).symm.trans hf
          exact J27 x0 x1 x2 x4 hf _ _ hP hS _ (lv_sub hl [0, 1, 2, 3] rfl)
        · have hf := (if_pos c_3).symm.trans hf
          refine lv_lload_n hx hb dX4_necklaceCount_18 rfl (lv_at hl 2 rfl) ?_
          refine lv_iload_n hx hb dX4_necklaceCount_19 rfl (lv_at hl 0 rfl) ?_
          refine lv_iload hx hb dX4_necklaceCount_20 (lv_at hl 3 rfl) ?_
          obtain ⟨r22, hc, hf⟩ := bn_some hf
          try dsimp only at hf
          refine g_call0 (ws' := (w_0none q cI cJ cD)) (st1 := [.long r22, .long x2]) hq [] [] [] (va_runS (As := [.int x0, .int x4]) (rest := [.long x2]) ⟨hx, hb, hml, hown, hts⟩ (kX4_lyndonCount l D cI cJ cD q hq N x0 x4 r22 hc) (va_cwS 2 hts gX4_necklaceCount_X4_lyndonCount rfl rfl rfl (by decide +kernel) ⟨(Nat.le_of_ble_eq_true rfl), (Nat.le_of_ble_eq_true rfl)⟩) ⟨gP_blind, fun U hU hW => ⟨rfl, by rw [hU]; exact hP.sub (ws' := (w_0none q cI cJ cD)) [] rfl, gEv.warm hW hE⟩⟩ rfl rfl hl.1 rfl (lv_room (Nat.le_of_ble_eq_true rfl)) dX4_necklaceCount_22 ⟨Nat.zero_le _, Nat.zero_le _⟩) hP hS (gSub rfl) rfl rfl rfl rfl rfl (fun H locs hP hS => ?_)
          refine lv_ladd hx hb dX4_necklaceCount_25 ?_
          refine lv_lstore_n (lv' := [(2, .long (x2 + r22)), (0, .int x0), (1, .int x1), (4, .int x4)]) hx hb dX4_necklaceCount_26 rfl hl (by decide) rfl (fun ls hl => ?_)
          exact J27 x0 x1 (x2 + r22) x4 hf _ _ hP hS _ (lv_sub hl [1, 2, 0, 3] rfl)
  unfold fX4_necklaceCount at hf
  refine lv_lconst (v := (0 : Int64)) hx hb dX4_necklaceCount_0 (by decide) ?_
  refine lv_lstore_n (lv' := [(2, .long (0 : Int64)), (0, .int p0), (1, .int p1)]) hx hb dX4_necklaceCount_1 rfl hl (by decide) rfl (fun ls hl => ?_)
  refine lv_iconst (v := (1 : Int32)) hx hb dX4_necklaceCount_2 (by decide) ?_
  refine lv_istore (lv' := [(4, .int (1 : Int32)), (2, .long (0 : Int64)), (0, .int p0), (1, .int p1)]) hx hb dX4_necklaceCount_3 hl (by decide) rfl (fun ls hl => ?_)
  exact K5 N p0 p1 (0 : Int64) (1 : Int32) hf _ _ hP hS _ (lv_sub hl [2, 3, 1, 0] rfl)
set_option maxHeartbeats 4000000 in
set_option maxRecDepth 100000 in
theorem kX2_countSame (l : Launch) (D : va_G) (cI cJ cD : ClassId) (q : Nat → Nat) (hq : gInj 14 q) (N : Nat) (Tn : Int32) (Ta : (Nat → Int32)) (p1 : Int32) (p2 : Int32) (r0 : Int32) (hf : fX2_countSame N Tn Ta p1 p2 = some r0) : Met l yX2_countSame wsX2_countSame rX2_countSame (gP D cI cJ cD [.ref (q 1), .int p1, .int p2] (w_1_2 q cI cJ cD Tn Ta)) (gQ D (some (.int r0)) (w_1_2 q cI cJ cD Tn Ta) (gA q [1, 2])) 0 0 (gA q [1, 2]) := by
  refine Met.ofW (cc := cX2_countSame) (maxL := 5) (ret := (some .int)) (by decide +kernel) rfl ?_
  intro p e s m args below meth c s₁ B hml hv
  obtain ⟨rfl, hP, hE⟩ := hv
  have hx := B.exec
  have hb := B.bytes
  have hr := B.returns
  have hts := atoms_spec (ws := wsX2_countSame) B.pre
  have hown : s.vm.findClass RX2 = some m.cls := findClass_of_methodNamed B.named
  have hlocks := B.notSynchronized
  have hS : va_S (gA q [1, 2]) s.heap s.heap [] := va_S.rf
  have hl := lv_entry ([.ref (q 1), .int p1, .int p2]) (n := 5) (Nat.le_of_ble_eq_true rfl)
  rw [lg_entry_eq]
  generalize (lg_sl ([.ref (q 1), .int p1, .int p2]) ++ List.replicate (5 - (lg_sl ([.ref (q 1), .int p1, .int p2])).length) Slot.unset).toArray = ls at hl ⊢
  have hl : lv_has ls 5 [(0, .ref (q 1)), (1, .int p1), (2, .int p2)] := hl
  have hk15 := hts (.fieldLink RX2 15 "LyndonText$Letters" "count" "I") (by decide +kernel)
  have hk9 := hts (.fieldLink RX2 9 "LyndonText$Letters" "row" "[I") (by decide +kernel)
  have huX2 : ∀ w ∈ u_ws RX2 TX2 2, w ∈ wsX2_countSame := by decide +kernel
  have J51 : ∀ (x4 : Int32), fX2_countSame_J51 N Tn Ta x4 = some r0 → ∀ (H : Heap) (locs : List Loc), va_P D vwCl (w_1_2 q cI cJ cD Tn Ta) H → va_S (gA q [1, 2]) s.heap H locs → ∀ ls : Array Slot, lv_has ls 5 [(4, .int x4)] → W p l e (headSpec wsX2_countSame rX2_countSame).room s m ([.ref (q 1), .int p1, .int p2] : List Value).toArray below meth c H locs 0 0 (MQ below (gQ D (some (.int r0)) (w_1_2 q cI cJ cD Tn Ta) (gA q [1, 2])) ([.ref (q 1), .int p1, .int p2] : List Value).toArray s 0 0 (gA q [1, 2])) (F0 m 51 ls []) := by
    intro x4 hf H locs hP hS ls hl
    unfold fX2_countSame_J51 at hf
    refine lv_iload hx hb dX2_countSame_51 (lv_at hl 0 rfl) ?_
    cases hf
    exact W.iret hx hb hr (fun t ht hW => ⟨⟨rfl, by rw [ht]; exact hP⟩, hS.F ht⟩) hS.2.2 dX2_countSame_53
  have K14 : ∀ (n14 : Nat) (x1 : Int32) (x2 : Int32) (x3 : Int32) (x4 : Int32), fX2_countSame_H14 N Tn Ta n14 x1 x2 x3 x4 = some r0 → ∀ (H : Heap) (locs : List Loc), va_P D vwCl (w_1_2 q cI cJ cD Tn Ta) H → va_S (gA q [1, 2]) s.heap H locs → ∀ ls : Array Slot, lv_has ls 5 [(0, .ref (q 1)), (1, .int x1), (2, .int x2), (3, .int x3), (4, .int x4)] → W p l e (headSpec wsX2_countSame rX2_countSame).room s m ([.ref (q 1), .int p1, .int p2] : List Value).toArray below meth c H locs 0 0 (MQ below (gQ D (some (.int r0)) (w_1_2 q cI cJ cD Tn Ta) (gA q [1, 2])) ([.ref (q 1), .int p1, .int p2] : List Value).toArray s 0 0 (gA q [1, 2])) (F0 m 14 ls []) := by
    intro n14
    induction n14 with
    | zero =>
      intro x1 x2 x3 x4 hf
      exact nomatch (show (none : Option Int32) = some r0 from hf)
    | succ n14 ih14 =>
      intro x1 x2 x3 x4 hf H locs hP hS ls hl
      have hf : fX2_countSame_B14 N Tn Ta (fX2_countSame_H14 N Tn Ta n14) x1 x2 x3 x4 = some r0 := hf
      unfold fX2_countSame_B14 at hf
      refine lv_iload hx hb dX2_countSame_14 (lv_at hl 4 rfl) ?_
      refine lv_iload_n hx hb dX2_countSame_16 rfl (lv_at hl 3 rfl) ?_
      refine lv_icmp_ge (tgt := 51) hx hb dX2_countSame_17 (by decide) (fun c_1 => ?_) (fun c_1 => ?_)
      · have hf := (if_pos c_1).symm.trans hf
        exact J51 x4 hf _ _ hP hS _ (lv_sub hl [4] rfl)
      · have hf := (if_neg c_1).symm.trans hf
        refine lv_aload_n hx hb dX2_countSame_20 rfl (lv_at hl 0 rfl) ?_
        refine va_get (D := D) (ci := 2) (v := .ref (q 2)) (C := RX2) (T := TX2) (N := 2) hx hb hts huX2 hown hE.1 hP 0 rfl rfl 0 (by decide) hk9 (fun _ h9 => h9) rfl dX2_countSame_21 ?_
        refine lv_iload_n hx hb dX2_countSame_24 rfl (lv_at hl 1 rfl) ?_
        refine lv_iload hx hb dX2_countSame_25 (lv_at hl 4 rfl) ?_
        refine lv_iadd hx hb dX2_countSame_27 ?_
        obtain ⟨r28, hc, hf⟩ := bn_some hf
        try dsimp only at hf
        refine g_call0 (ws' := (w_1_2 q cI cJ cD Tn Ta)) (st1 := [.int r28]) hq [1, 2] [2] [.inr 0, .inl 0] (va_runSN (As := [.ref (q 2), .int (x1 + x4)]) (rest := []) ⟨hx, hb, hml, hown, hts⟩ (kX8_at l D cI cJ cD q hq 2 (by decide) N 64 Ta (x1 + x4) r28 hc) ⟨va_cnB (host := RX8) 2 hts gX2_countSame_X8_at_n19 rfl rfl rfl (hE.2 (.methodLinkNest RX2 19 yX8_at RX8) (by decide +kernel)) (hts (.initialized RX8) (by decide +kernel)) (by decide +kernel) ⟨(Nat.le_of_ble_eq_true rfl), (Nat.le_of_ble_eq_true rfl)⟩, hts (.static yX8_at) (by decide +kernel), trivial⟩ ⟨gP_blind, fun U hU hW => ⟨rfl, by rw [hU]; exact hP.sub (ws' := (w_G q cI 2 64 Ta)) [1] rfl, gEv.warm hW hE⟩⟩ rfl rfl hl.1 rfl (lv_room (Nat.le_of_ble_eq_true rfl)) dX2_countSame_28 ⟨Nat.zero_le _, Nat.zero_le _⟩) hP hS (gSub rfl) rfl rfl rfl rfl rfl (fun H locs hP hS => ?_)
        refine lv_aload_n hx hb dX2_countSame_31 rfl (lv_at hl 0 rfl) ?_
        refine va_get (D := D) (ci := 2) (v := .ref (q 2)) (C := RX2) (T := TX2) (N := 2) hx hb hts huX2 hown hE.1 hP 0 rfl rfl 0 (by decide) hk9 (fun _ h9 => h9) rfl dX2_countSame_32 ?_
        refine lv_iload_n hx hb dX2_countSame_35 rfl (lv_at hl 2 rfl) ?_
        refine lv_iload hx hb dX2_countSame_36 (lv_at hl 4 rfl) ?_
        refine lv_iadd hx hb dX2_countSame_38 ?_
        obtain ⟨r39, hc, hf⟩ := bn_some hf
        try dsimp only at hf
        refine g_call0 (ws' := (w_1_2 q cI cJ cD Tn Ta)) (st1 := [.int r39, .int r28]) hq [1, 2] [2] [.inr 0, .inl 0] (va_runSN (As := [.ref (q 2), .int (x2 + x4)]) (rest := [.int r28]) ⟨hx, hb, hml, hown, hts⟩ (kX8_at l D cI cJ cD q hq 2 (by decide) N 64 Ta (x2 + x4) r39 hc) ⟨va_cnB (host := RX8) 2 hts gX2_countSame_X8_at_n19 rfl rfl rfl (hE.2 (.methodLinkNest RX2 19 yX8_at RX8) (by decide +kernel)) (hts (.initialized RX8) (by decide +kernel)) (by decide +kernel) ⟨(Nat.le_of_ble_eq_true rfl), (Nat.le_of_ble_eq_true rfl)⟩, hts (.static yX8_at) (by decide +kernel), trivial⟩ ⟨gP_blind, fun U hU hW => ⟨rfl, by rw [hU]; exact hP.sub (ws' := (w_G q cI 2 64 Ta)) [1] rfl, gEv.warm hW hE⟩⟩ rfl rfl hl.1 rfl (lv_room (Nat.le_of_ble_eq_true rfl)) dX2_countSame_39 ⟨Nat.zero_le _, Nat.zero_le _⟩) hP hS (gSub rfl) rfl rfl rfl rfl rfl (fun H locs hP hS => ?_)
        refine lv_icmp_ne (tgt := 51) hx hb dX2_countSame_42 (by decide) (fun c_2 => ?_) (fun c_2 => ?_)
        · have hf := (if_neg c_2).symm.trans hf
          exact J51 x4 hf _ _ hP hS _ (lv_sub hl [4] rfl)
        · have hf := (if_pos c_2).symm.trans hf
          refine lv_iinc (v := (x4 + 1)) (lv' := [(4, .int (x4 + 1)), (0, .ref (q 1)), (1, .int x1), (2, .int x2), (3, .int x3)]) hx hb dX2_countSame_45 hl (k := 4) rfl rfl (by decide) rfl (fun ls hl => ?_)
          refine lv_goto (tgt := 14) hx hb dX2_countSame_48 (by decide) ?_
          exact ih14 x1 x2 x3 (x4 + 1) hf _ _ hP hS _ (lv_sub hl [1, 2, 3, 4, 0] rfl)
  unfold fX2_countSame at hf
  refine lv_aload_n hx hb dX2_countSame_0 rfl (lv_at hl 0 rfl) ?_
  refine va_get (D := D) (ci := 2) (v := .int Tn) (C := RX2) (T := TX2) (N := 2) hx hb hts huX2 hown hE.1 hP 0 rfl rfl 1 (by decide) hk15 (fun _ h9 => h9) rfl dX2_countSame_1 ?_
  refine lv_iload_n hx hb dX2_countSame_4 rfl (lv_at hl 1 rfl) ?_
  refine lv_iload_n hx hb dX2_countSame_5 rfl (lv_at hl 2 rfl) ?_
  refine va_mmax hx hb (hml.trans hl.1.symm) hown (hts (.methodLink RX2 31 Lib.Math.max.name) (by decide +kernel)) (hts (.static Lib.Math.max.name) (by decide +kernel)) (hts (.initialized "java/lang/Math") (by decide +kernel)) (hts (.code Lib.Math.max.name Lib.Math.max.code 2 (some .int)) (by decide +kernel)) (Nat.le_of_ble_eq_true rfl) (Nat.le_of_ble_eq_true rfl) (Nat.zero_le _) (Nat.zero_le _) dX2_countSame_6 ?_
  refine lv_isub hx hb dX2_countSame_9 ?_
  refine lv_istore_n (lv' := [(3, .int (Tn - (if p1 < p2 then p2 else p1))), (0, .ref (q 1)), (1, .int p1), (2, .int p2)]) hx hb dX2_countSame_10 rfl hl (by decide) rfl (fun ls hl => ?_)
  refine lv_iconst (v := (0 : Int32)) hx hb dX2_countSame_11 (by decide) ?_
  refine lv_istore (lv' := [(4, .int (0 : Int32)), (3, .int (Tn - (if p1 < p2 then p2 else p1))), (0, .ref (q 1)), (1, .int p1), (2, .int p2)]) hx hb dX2_countSame_12 hl (by decide) rfl (fun ls hl => ?_)
  exact K14 N p1 p2 (Tn - (if p1 < p2 then p2 else p1)) (0 : Int32) hf _ _ hP hS _ (lv_sub hl [2, 3, 4, 1, 0] rfl)
set_option maxHeartbeats 4000000 in
set_option maxRecDepth 100000 in
theorem kX2_keepsPeriod (l : Launch) (D : va_G) (cI cJ cD : ClassId) (q : Nat → Nat) (hq : gInj 14 q) (N : Nat) (Tn : Int32) (Ta : (Nat → Int32)) (p1 : Int32) (p2 : Int32) (p3 : Int32) (r0 : Int32) (hf : fX2_keepsPeriod N Tn Ta p1 p2 p3 = some r0) : Met l yX2_keepsPeriod wsX2_keepsPeriod rX2_keepsPeriod (gP D cI cJ cD [.ref (q 1), .int p1, .int p2, .int p3] (w_1_2 q cI cJ cD Tn Ta)) (gQ D (some (.int r0)) (w_1_2 q cI cJ cD Tn Ta) (gA q [1, 2])) 0 0 (gA q [1, 2]) := by
  refine Met.ofW (cc := cX2_keepsPeriod) (maxL := 5) (ret := (some .boolean)) (by decide +kernel) rfl ?_
  intro p e s m args below meth c s₁ B hml hv
  obtain ⟨rfl, hP, hE⟩ := hv
  have hx := B.exec
  have hb := B.bytes
  have hr := B.returns
  have hts := atoms_spec (ws := wsX2_keepsPeriod) B.pre
  have hown : s.vm.findClass RX2 = some m.cls := findClass_of_methodNamed B.named
  have hlocks := B.notSynchronized
  have hS : va_S (gA q [1, 2]) s.heap s.heap [] := va_S.rf
  have hl := lv_entry ([.ref (q 1), .int p1, .int p2, .int p3]) (n := 5) (Nat.le_of_ble_eq_true rfl)
  rw [lg_entry_eq]
  generalize (lg_sl ([.ref (q 1), .int p1, .int p2, .int p3]) ++ List.replicate (5 - (lg_sl ([.ref (q 1), .int p1, .int p2, .int p3])).length) Slot.unset).toArray = ls at hl ⊢
  have hl : lv_has ls 5 [(0, .ref (q 1)), (1, .int p1), (2, .int p2), (3, .int p3)] := hl
  have hk9 := hts (.fieldLink RX2 9 "LyndonText$Letters" "row" "[I") (by decide +kernel)
  have huX2 : ∀ w ∈ u_ws RX2 TX2 2, w ∈ wsX2_keepsPeriod := by decide +kernel
  have J42 : ∀ (_ : Unit), fX2_keepsPeriod_J42 N Tn Ta = some r0 → ∀ (H : Heap) (locs : List Loc), va_P D vwCl (w_1_2 q cI cJ cD Tn Ta) H → va_S (gA q [1, 2]) s.heap H locs → ∀ ls : Array Slot, lv_has ls 5 [] → W p l e (headSpec wsX2_keepsPeriod rX2_keepsPeriod).room s m ([.ref (q 1), .int p1, .int p2, .int p3] : List Value).toArray below meth c H locs 0 0 (MQ below (gQ D (some (.int r0)) (w_1_2 q cI cJ cD Tn Ta) (gA q [1, 2])) ([.ref (q 1), .int p1, .int p2, .int p3] : List Value).toArray s 0 0 (gA q [1, 2])) (F0 m 42 ls []) := by
    intro _ hf H locs hP hS ls hl
    unfold fX2_keepsPeriod_J42 at hf
    refine lv_iconst (v := (1 : Int32)) hx hb dX2_keepsPeriod_42 (by decide) ?_
    obtain ⟨g_1, hf⟩ := gd_some hf
    cases hf
    exact W.zret (ty := .boolean) hx hb hr (isB_nar g_1) (fun t ht hW => ⟨⟨rfl, by rw [ht]; exact hP⟩, hS.F ht⟩) hS.2.2 dX2_keepsPeriod_43
  have J34 : ∀ (_ : Unit), fX2_keepsPeriod_J34 N Tn Ta = some r0 → ∀ (H : Heap) (locs : List Loc), va_P D vwCl (w_1_2 q cI cJ cD Tn Ta) H → va_S (gA q [1, 2]) s.heap H locs → ∀ ls : Array Slot, lv_has ls 5 [] → W p l e (headSpec wsX2_keepsPeriod rX2_keepsPeriod).room s m ([.ref (q 1), .int p1, .int p2, .int p3] : List Value).toArray below meth c H locs 0 0 (MQ below (gQ D (some (.int r0)) (w_1_2 q cI cJ cD Tn Ta) (gA q [1, 2])) ([.ref (q 1), .int p1, .int p2, .int p3] : List Value).toArray s 0 0 (gA q [1, 2])) (F0 m 34 ls []) := by
    intro _ hf H locs hP hS ls hl
    unfold fX2_keepsPeriod_J34 at hf
    refine lv_iconst (v := (0 : Int32)) hx hb dX2_keepsPeriod_34 (by decide) ?_
    obtain ⟨g_2, hf⟩ := gd_some hf
    cases hf
    exact W.zret (ty := .boolean) hx hb hr (isB_nar g_2) (fun t ht hW => ⟨⟨rfl, by rw [ht]; exact hP⟩, hS.F ht⟩) hS.2.2 dX2_keepsPeriod_35
  have K5 : ∀ (n5 : Nat) (x2 : Int32) (x3 : Int32) (x4 : Int32), fX2_keepsPeriod_H5 N Tn Ta n5 x2 x3 x4 = some r0 → ∀ (H : Heap) (locs : List Loc), va_P D vwCl (w_1_2 q cI cJ cD Tn Ta) H → va_S (gA q [1, 2]) s.heap H locs → ∀ ls : Array Slot, lv_has ls 5 [(0, .ref (q 1)), (2, .int x2), (3, .int x3), (4, .int x4)] → W p l e (headSpec wsX2_keepsPeriod rX2_keepsPeriod).room s m ([.ref (q 1), .int p1, .int p2, .int p3] : List Value).toArray below meth c H locs 0 0 (MQ below (gQ D (some (.int r0)) (w_1_2 q cI cJ cD Tn Ta) (gA q [1, 2])) ([.ref (q 1), .int p1, .int p2, .int p3] : List Value).toArray s 0 0 (gA q [1, 2])) (F0 m 5 ls []) := by
    intro n5
    induction n5 with
    | zero =>
      intro x2 x3 x4 hf
      exact nomatch (show (none : Option Int32) = some r0 from hf)
    | succ n5 ih5 =>
      intro x2 x3 x4 hf H locs hP hS ls hl
      have hf : fX2_keepsPeriod_B5 N Tn Ta (fX2_keepsPeriod_H5 N Tn Ta n5) x2 x3 x4 = some r0 := hf
      unfold fX2_keepsPeriod_B5 at hf
      refine lv_iload hx hb dX2_keepsPeriod_5 (lv_at hl 3 rfl) ?_
      refine lv_iload_n hx hb dX2_keepsPeriod_7 rfl (lv_at hl 1 rfl) ?_
      refine lv_icmp_ge (tgt := 42) hx hb dX2_keepsPeriod_8 (by decide) (fun c_3 => ?_) (fun c_3 => ?_)
      · have hf := (if_pos c_3).symm.trans hf
        exact J42 () hf _ _ hP hS _ (lv_sub hl [] rfl)
      · have hf := (if_neg c_3).symm.trans hf
        refine lv_aload_n hx hb dX2_keepsPeriod_11 rfl (lv_at hl 0 rfl) ?_
        refine va_get (D := D) (ci := 2) (v := .ref (q 2)) (C := RX2) (T := TX2) (N := 2) hx hb hts huX2 hown hE.1 hP 0 rfl rfl 0 (by decide) hk9 (fun _ h9 => h9) rfl dX2_keepsPeriod_12 ?_
        refine lv_iload hx hb dX2_keepsPeriod_15 (lv_at hl 3 rfl) ?_
        obtain ⟨r17, hc, hf⟩ := bn_some hf
        try dsimp only at hf
        refine g_call0 (ws' := (w_1_2 q cI cJ cD Tn Ta)) (st1 := [.int r17]) hq [1, 2] [2] [.inr 0, .inl 0] (va_runSN (As := [.ref (q 2), .int x4]) (rest := []) ⟨hx, hb, hml, hown, hts⟩ (kX8_at l D cI cJ cD q hq 2 (by decide) N 64 Ta x4 r17 hc) ⟨va_cnB (host := RX8) 2 hts gX2_keepsPeriod_X8_at_n19 rfl rfl rfl (hE.2 (.methodLinkNest RX2 19 yX8_at RX8) (by decide +kernel)) (hts (.initialized RX8) (by decide +kernel)) (by decide +kernel) ⟨(Nat.le_of_ble_eq_true rfl), (Nat.le_of_ble_eq_true rfl)⟩, hts (.static yX8_at) (by decide +kernel), trivial⟩ ⟨gP_blind, fun U hU hW => ⟨rfl, by rw [hU]; exact hP.sub (ws' := (w_G q cI 2 64 Ta)) [1] rfl, gEv.warm hW hE⟩⟩ rfl rfl hl.1 rfl (lv_room (Nat.le_of_ble_eq_true rfl)) dX2_keepsPeriod_17 ⟨Nat.zero_le _, Nat.zero_le _⟩) hP hS (gSub rfl) rfl rfl rfl rfl rfl (fun H locs hP hS => ?_)
        refine lv_aload_n hx hb dX2_keepsPeriod_20 rfl (lv_at hl 0 rfl) ?_
        refine va_get (D := D) (ci := 2) (v := .ref (q 2)) (C := RX2) (T := TX2) (N := 2) hx hb hts huX2 hown hE.1 hP 0 rfl rfl 0 (by decide) hk9 (fun _ h9 => h9) rfl dX2_keepsPeriod_21 ?_
        refine lv_iload hx hb dX2_keepsPeriod_24 (lv_at hl 3 rfl) ?_
        refine lv_iload_n hx hb dX2_keepsPeriod_26 rfl (lv_at hl 2 rfl) ?_
        refine lv_isub hx hb dX2_keepsPeriod_27 ?_
        obtain ⟨r28, hc, hf⟩ := bn_some hf
        try dsimp only at hf
        refine g_call0 (ws' := (w_1_2 q cI cJ cD Tn Ta)) (st1 := [.int r28, .int r17]) hq [1, 2] [2] [.inr 0, .inl 0] (va_runSN (As := [.ref (q 2), .int (x4 - x3)]) (rest := [.int r17]) ⟨hx, hb, hml, hown, hts⟩ (kX8_at l D cI cJ cD q hq 2 (by decide) N 64 Ta (x4 - x3) r28 hc) ⟨va_cnB (host := RX8) 2 hts gX2_keepsPeriod_X8_at_n19 rfl rfl rfl (hE.2 (.methodLinkNest RX2 19 yX8_at RX8) (by decide +kernel)) (hts (.initialized RX8) (by decide +kernel)) (by decide +kernel) ⟨(Nat.le_of_ble_eq_true rfl), (Nat.le_of_ble_eq_true rfl)⟩, hts (.static yX8_at) (by decide +kernel), trivial⟩ ⟨gP_blind, fun U hU hW => ⟨rfl, by rw [hU]; exact hP.sub (ws' := (w_G q cI 2 64 Ta)) [1] rfl, gEv.warm hW hE⟩⟩ rfl rfl hl.1 rfl (lv_room (Nat.le_of_ble_eq_true rfl)) dX2_keepsPeriod_28 ⟨Nat.zero_le _, Nat.zero_le _⟩) hP hS (gSub rfl) rfl rfl rfl rfl rfl (fun H locs hP hS => ?_)
        refine lv_icmp_eq (tgt := 36) hx hb dX2_keepsPeriod_31 (by decide) (fun c_4 => ?_) (fun c_4 => ?_)
        · have hf := (if_pos c_4).symm.trans hf
          refine lv_iinc (v := (x4 + 1)) (lv' := [(4, .int (x4 + 1)), (0, .ref (q 1)), (2, .int x2), (3, .int x3)]) hx hb dX2_keepsPeriod_36 hl (k := 3) rfl rfl (by decide) rfl (fun ls hl => ?_)
          refine lv_goto (tgt := 5) hx hb dX2_keepsPeriod_39 (by decide) ?_
          exact ih5 x2 x3 (x4 + 1) hf _ _ hP hS _ (lv_sub hl [1, 2, 3, 0] rfl)
        · have hf := (if_neg c_4).symm.trans hf
          exact J34 () hf _ _ hP hS _ (lv_sub hl [] rfl)
  unfold fX2_keepsPeriod at hf
  refine lv_iload_n hx hb dX2_keepsPeriod_0 rfl (lv_at hl 1 rfl) ?_
  refine lv_iload_n hx hb dX2_keepsPeriod_1 rfl (lv_at hl 3 rfl) ?_
  refine lv_iadd hx hb dX2_keepsPeriod_2 ?_
  refine lv_istore (lv' := [(4, .int (p1 + p3)), (0, .ref (q 1)), (1, .int p1), (2, .int p2), (3, .int p3)]) hx hb dX2_keepsPeriod_3 hl (by decide) rfl (fun ls hl => ?_)
  exact K5 N p2 p3 (p1 + p3) hf _ _ hP hS _ (lv_sub hl [1, 3, 4, 0] rfl)
set_option maxHeartbeats 4000000 in
set_option maxRecDepth 100000 in
theorem kX2_firstPeriod (l : Launch) (D : va_G) (cI cJ cD : ClassId) (q : Nat → Nat) (hq : gInj 14 q) (N : Nat) (Tn : Int32) (Ta : (Nat → Int32)) (p1 : Int32) (p2 : Int32) (r0 : Int32) (hf : fX2_firstPeriod N Tn Ta p1 p2 = some r0) : Met l yX2_firstPeriod wsX2_firstPeriod rX2_firstPeriod (gP D cI cJ cD [.ref (q 1), .int p1, .int p2] (w_1_2 q cI cJ cD Tn Ta)) (gQ D (some (.int r0)) (w_1_2 q cI cJ cD Tn Ta) (gA q [1, 2])) 0 0 (gA q [1, 2]) := by
  refine Met.ofW (cc := cX2_firstPeriod) (maxL := 4) (ret := (some .int)) (by decide +kernel) rfl ?_
  intro p e s m args below meth c s₁ B hml hv
  obtain ⟨rfl, hP, hE⟩ := hv
  have hx := B.exec
  have hb := B.bytes
  have hr := B.returns
  have hts := atoms_spec (ws := wsX2_firstPeriod) B.pre
  have hown : s.vm.findClass RX2 = some m.cls := findClass_of_methodNamed B.named
  have hlocks := B.notSynchronized
  have hS : va_S (gA q [1, 2]) s.heap s.heap [] := va_S.rf
  have hl := lv_entry ([.ref (q 1), .int p1, .int p2]) (n := 4) (Nat.le_of_ble_eq_true rfl)
  rw [lg_entry_eq]
  generalize (lg_sl ([.ref (q 1), .int p1, .int p2]) ++ List.replicate (4 - (lg_sl ([.ref (q 1), .int p1, .int p2])).length) Slot.unset).toArray = ls at hl ⊢
  have hl : lv_has ls 4 [(0, .ref (q 1)), (1, .int p1), (2, .int p2)] := hl
  have J25 : ∀ (x3 : Int32), fX2_firstPeriod_J25 N Tn Ta x3 = some r0 → ∀ (H : Heap) (locs : List Loc), va_P D vwCl (w_1_2 q cI cJ cD Tn Ta) H → va_S (gA q [1, 2]) s.heap H locs → ∀ ls : Array Slot, lv_has ls 4 [(3, .int x3)] → W p l e (headSpec wsX2_firstPeriod rX2_firstPeriod).room s m ([.ref (q 1), .int p1, .int p2] : List Value).toArray below meth c H locs 0 0 (MQ below (gQ D (some (.int r0)) (w_1_2 q cI cJ cD Tn Ta) (gA q [1, 2])) ([.ref (q 1), .int p1, .int p2] : List Value).toArray s 0 0 (gA q [1, 2])) (F0 m 25 ls []) := by
    intro x3 hf H locs hP hS ls hl
    unfold fX2_firstPeriod_J25 at hf
    refine lv_iload_n hx hb dX2_firstPeriod_25 rfl (lv_at hl 0 rfl) ?_
    cases hf
    exact W.iret hx hb hr (fun t ht hW => ⟨⟨rfl, by rw [ht]; exact hP⟩, hS.F ht⟩) hS.2.2 dX2_firstPeriod_26
  have K2 : ∀ (n2 : Nat) (x1 : Int32) (x2 : Int32) (x3 : Int32), fX2_firstPeriod_H2 N Tn Ta n2 x1 x2 x3 = some r0 → ∀ (H : Heap) (locs : List Loc), va_P D vwCl (w_1_2 q cI cJ cD Tn Ta) H → va_S (gA q [1, 2]) s.heap H locs → ∀ ls : Array Slot, lv_has ls 4 [(0, .ref (q 1)), (1, .int x1), (2, .int x2), (3, .int x3)] → W p l e (headSpec wsX2_firstPeriod rX2_firstPeriod).room s m ([.ref (q 1), .int p1, .int p2] : List Value).toArray below meth c H locs 0 0 (MQ below (gQ D (some (.int r0)) (w_1_2 q cI cJ cD Tn Ta) (gA q [1, 2])) ([.ref (q 1), .int p1, .int p2] : List Value).toArray s 0 0 (gA q [1, 2])) (F0 m 2 ls []) := by
    intro n2
    induction n2 with
    | zero =>
      intro x1 x2 x3 hf
      exact nomatch (show (none : Option Int32) = some r0 from hf)
    | succ n2 ih2 =>
      intro x1 x2 x3 hf H locs hP hS ls hl
      have hf : fX2_firstPeriod_B2 N Tn Ta (fX2_firstPeriod_H2 N Tn Ta n2) x1 x2 x3 = some r0 := hf
      unfold fX2_firstPeriod_B2 at hf
      refine lv_iload_n hx hb dX2_firstPeriod_2 rfl (lv_at hl 3 rfl) ?_
      refine lv_iload_n hx hb dX2_firstPeriod_3 rfl (lv_at hl 2 rfl) ?_
      refine lv_iload_n hx hb dX2_firstPeriod_4 rfl (lv_at hl 1 rfl) ?_
      refine lv_isub hx hb dX2_firstPeriod_5 ?_
      refine lv_icmp_ge (tgt := 25) hx hb dX2_firstPeriod_6 (by decide) (fun c_1 => ?_) (fun c_1 => ?_)
      · have hf := (if_pos c_1).symm.trans hf
        exact J25 x3 hf _ _ hP hS _ (lv_sub hl [3] rfl)
      · have hf := (if_neg c_1).symm.trans hf
        refine lv_aload_n hx hb dX2_firstPeriod_9 rfl (lv_at hl 0 rfl) ?_
        refine lv_iload_n hx hb dX2_firstPeriod_10 rfl (lv_at hl 1 rfl) ?_
        refine lv_iload_n hx hb dX2_firstPeriod_11 rfl (lv_at hl 2 rfl) ?_
        refine lv_iload_n hx hb dX2_firstPeriod_12 rfl (lv_at hl 3 rfl) ?_
        obtain ⟨r13, hc, hf⟩ := bn_some hf
        try dsimp only at hf
        refine g_call0 (ws' := (w_1_2 q cI cJ cD Tn Ta)) (st1 := [.int r13]) hq [1, 2] [1, 2] [.inl 0, .inl 1] (va_runV (As := [.int x1, .int x2, .int x3]) (rest := []) ⟨hx, hb, hml, hown, hts⟩ (kX2_keepsPeriod l D cI cJ cD q hq N Tn Ta x1 x2 x3 r13 hc) (cwV 3 hts gX2_firstPeriod_X2_keepsPeriod rfl rfl rfl (by decide +kernel) ⟨(Nat.le_of_ble_eq_true rfl), (Nat.le_of_ble_eq_true rfl)⟩) ⟨gP_blind, va_recv hE.1 hP (ci := 2) (q0 := 0) rfl rfl, fun U hU hW => ⟨rfl, by rw [hU]; exact hP.sub (ws' := (w_1_2 q cI cJ cD Tn Ta)) [0, 1] rfl, gEv.warm hW hE⟩⟩ rfl rfl hl.1 rfl (lv_room (Nat.le_of_ble_eq_true rfl)) dX2_firstPeriod_13 ⟨Nat.zero_le _, Nat.zero_le _⟩) hP hS (gSub rfl) rfl rfl rfl rfl rfl (fun H locs hP hS => ?_)
        refine lv_if_ne (tgt := 25) hx hb dX2_firstPeriod_16 (by decide) (fun c_2 => ?_) (fun c_2 => ?_)
        · have hf := (if_neg c_2).symm.trans hf
          exact J25 x3 hf _ _ hP hS _ (lv_sub hl [3] rfl)
        · have hf := (if_pos c_2).symm.trans hf
          refine lv_iinc (v := (x3 + 1)) (lv' := [(3, .int (x3 + 1)), (0, .ref (q 1)), (1, .int x1), (2, .int x2)]) hx hb dX2_firstPeriod_19 hl (k := 3) rfl rfl (by decide) rfl (fun ls hl => ?_)
          refine lv_goto (tgt := 2) hx hb dX2_firstPeriod_22 (by decide) ?_
          exact ih2 x1 x2 (x3 + 1) hf _ _ hP hS _ (lv_sub hl [1, 2, 3, 0] rfl)
  unfold fX2_firstPeriod at hf
  refine lv_iconst (v := (1 : Int32)) hx hb dX2_firstPeriod_0 (by decide) ?_
  refine lv_istore_n (lv' := [(3, .int (1 : Int32)), (0, .ref (q 1)), (1, .int p1), (2, .int p2)]) hx hb dX2_firstPeriod_1 rfl hl (by decide) rfl (fun ls hl => ?_)
  exact K2 N p1 p2 (1 : Int32) hf _ _ hP hS _ (lv_sub hl [1, 2, 3, 0] rfl)
