def gPn (D : va_G) (cI cJ cD : ClassId) (sz : Nat) (av : List Value) (ws : va_W) : Array Value → State → Prop := va_Pc av (fun U => U.heap.size = sz ∧ va_P D vwCl ws U.heap ∧ gEv D cI cJ cD U ∧ va_D (fun _ => True) ws)
theorem gPn_blind {D : va_G} {cI cJ cD : ClassId} {sz : Nat} {av : List Value} {ws : va_W} : FrameBlind (gPn D cI cJ cD sz av ws) := fun a U g mk h => ⟨h.1, h.2.1, h.2.2.1, gEv.same (u := U) (U := U.calling g mk a) rfl h.2.2.2.1, h.2.2.2.2⟩
theorem gD1 {A : Nat → Prop} {a : Nat} {e : va_E} (h : A a) : va_D A [(a, e)] := by
  refine ⟨fun i j p r hi hj _ => ?_, fun k p hk => ?_⟩
  · have h1 := (List.getElem?_eq_some_iff.mp hi).1
    have h2 := (List.getElem?_eq_some_iff.mp hj).1
    simp at h1 h2
    omega
  · have h1 := (List.getElem?_eq_some_iff.mp hk).1
    simp at h1
    subst h1
    cases hk
    exact h
theorem g_newa {p : Program} {l : Launch} {e : Env} {R : Room} {s : State} {m : MethodId} {args : Array Value} {below : List Frame} {meth : Method} {c : Code} {H : Heap} {locs : List Loc} {cells slots : Nat} {Q : State → Prop} {pc : Nat} {ls : Array Slot} {rest : List Value} {A : Nat → Prop} {H0 : Heap} {D : va_G} {cl : List vw_C} {tys : List (ClassId × FieldType)} {ws : va_W} {cc : ByteArray} (hexec : p.tables.exec = Jvm.exec) (hb : c.code = cc) {atype : ArrayType} (harr : (Cond.arrayClass (newarray.typeOf atype)).before args s = true) {ty : FieldType} (hty : newarray.typeOf atype = ty) {cA0 : ClassId} (hra : s.vm.findClass ("[" ++ ty.toString) = some cA0) (hK : va_K D cl tys s) (hP : va_P D cl ws H) (hD : va_D A ws) (hS : va_S A H0 H locs) (hA : ∀ q, H0.size ≤ q → A q)
    {n : Int32} {N' : Nat} {a0 : vp_A} (ha : ∀ cA : ClassId, vp_cell cA a0 = arrV cA N' (fun _ => defaultValue ty)) (hn : ¬ n < 0) (hN : n.toNatClampNeg = N') (hbytes : N' * componentBytes ty ≤ 536870912) (hcells : cells + 1 ≤ R.cells) (hslots : slots + N' ≤ R.slots) (hdg : decode cc pc = .ok (.newarray atype, 2))
    (kk : ∀ (q : Nat) (H1 : Heap), va_P D cl (ws ++ [(q, .inl (cA0, a0))]) H1 → va_D A (ws ++ [(q, .inl (cA0, a0))]) → va_S A H0 H1 locs →
      W p l e R s m args below meth c H1 locs (cells + 1) (slots + N') Q (F0 m (pc + 2) ls (.ref q :: rest))) : W p l e R s m args below meth c H locs cells slots Q (F0 m pc ls (.int n :: rest)) := by
  subst hty
  refine va_newaK hexec hb harr rfl hdg rfl hn hN hbytes hcells hslots rfl fun H1 cA e1 z1 o1 hAr hNm => ?_
  cases Option.some.inj (hNm.symm.trans hra)
  have hk : ∀ (k : Nat) (x : Nat × va_E), ws[k]? = some x → H1[x.1]? = H[x.1]? := fun k x hx => o1 x.1 ((hP k x hx).lt)
  refine kk H.size H1 ((hP.kept hk).app (fun k x hx => ?_)) (hD.push hP rfl (hA _ hS.1)) ⟨Nat.le_trans hS.1 (by omega), fun x h1 h2 => (o1 x (Nat.lt_of_lt_of_le h1 hS.1)).trans (hS.2.1 x h1 h2), hS.2.2⟩
  have hz : k < 1 := (List.getElem?_eq_some_iff.mp hx).1
  rw [show k = 0 by omega] at hx
  cases hx
  show H1[H.size]? = some (vp_cell _ _)
  rw [ha]
  exact e1
abbrev rX0_init : Room := { frames := 1, cells := 1, slots := 65, locals := 20 }
set_option maxHeartbeats 4000000 in
set_option maxRecDepth 100000 in
theorem kX0_init (l : Launch) (D : va_G) (cI cJ cD : ClassId) (h0 sz : Nat) : Met l yX0_init wsX0_init rX0_init (gPn D cI cJ cD sz [.ref h0] [(h0, .inr (0, [.null]))]) (va_Qv (fun _ => True) (fun (_ : Unit) t => ∃ a1 : Nat, va_P D vwCl [(h0, .inr (0, [.ref a1])), (a1, .inl (cI, 65, .inl (fun _ => 0)))] t.heap ∧ va_D (va_A [(h0, .inr (0, [.null]))] sz) [(h0, .inr (0, [.ref a1])), (a1, .inl (cI, 65, .inl (fun _ => 0)))]) (va_A [(h0, .inr (0, [.null]))] sz)) 1 65 (va_A [(h0, .inr (0, [.null]))] sz) := by
  refine Met.ofW (cc := cX0_init) (maxL := 1) (ret := none) (by decide +kernel) rfl ?_
  intro p e s m args below meth c s₁ B hml hv
  obtain ⟨rfl, hsz, hP, hE, hD0⟩ := hv
  have hx := B.exec
  have hb := B.bytes
  have hr := B.returns
  have hts := atoms_spec (ws := wsX0_init) B.pre
  have hown : s.vm.findClass RX0 = some m.cls := findClass_of_methodNamed B.named
  have hlocks := B.notSynchronized
  have hin : meth.name = "<init>" := (name_of_methodNamed B.named B.method).1
  subst hsz
  have hD := hD0.self (sz := s.heap.size)
  generalize hAe : va_A [(h0, .inr (0, [.null]))] s.heap.size = A at hD ⊢
  have hA : ∀ q : Nat, s.heap.size ≤ q → A q := fun q h => by rw [← hAe]; exact Or.inr h
  have hS : va_S A s.heap s.heap [] := va_S.rf
  have hP : va_P D vwCl [(h0, .inr (0, [.null]))] s.heap := hP
  have hl := lv_entry ([.ref h0]) (n := 1) (Nat.le_of_ble_eq_true rfl)
  rw [lg_entry_eq]
  generalize (lg_sl ([.ref h0]) ++ List.replicate (1 - (lg_sl ([.ref h0])).length) Slot.unset).toArray = ls at hl ⊢
  have hl : lv_has ls 1 [(0, .ref h0)] := hl
  have huX0 : ∀ w ∈ u_ws RX0 TX0 1, w ∈ wsX0_init := by decide +kernel
  refine lv_aload_n hx hb dX0_init_0 rfl (lv_at hl 0 rfl) ?_
  refine W.objInit hx hb hown (hts (.methodLink RX0 3 objectInit) (by decide +kernel)) (hts (.instanceMethod objectInit) (by decide +kernel)) (hts (.code objectInit ⟨#[0xb1]⟩ 1 none) (by decide +kernel)) rfl (by rw [hml]; exact hl.1) rfl dX0_init_1 (Nat.le_of_ble_eq_true rfl) (Nat.le_of_ble_eq_true rfl) ?_
  refine W.eq (g2 := F0 m 4 ls []) rfl ?_
  refine lv_aload_n hx hb dX0_init_4 rfl (lv_at hl 0 rfl) ?_
  refine lv_bipush (v := 65) hx hb dX0_init_5 (by decide) ?_
  refine g_newa (ty := .int) (atype := .int) (N' := 65) (a0 := (65, .inl (fun _ => 0))) hx hb (hts (.arrayClass .int) (by decide +kernel)) rfl (hE.1.2 0 _ rfl).2 hE.1 hP hD hS hA (fun _ => rfl) (by decide) (by decide) (Nat.le_of_ble_eq_true rfl) (Nat.le_of_ble_eq_true rfl) (Nat.le_of_ble_eq_true rfl) dX0_init_7 (fun a1 H hP hD hS => ?_)
  have hP : va_P D vwCl [(h0, .inr (0, [.null])), (a1, .inl (cI, 65, .inl (fun _ => 0)))] H := hP
  have hD : va_D A [(h0, .inr (0, [.null])), (a1, .inl (cI, 65, .inl (fun _ => 0)))] := hD
  refine va_putF (D := D) (ci := 0) (v := .ref a1) (ty := .array .int) (C := RX0) (T := TX0) (N := 1) hx hb hts huX0 tyX0 tyX0_ok nmX0 hown hE.1 hP hD hS 0 rfl rfl 0 (by decide) (hts (.fieldLink RX0 9 "LyndonText$Borders" "row" "[I") (by decide +kernel)) (fun _ h9 => h9) rfl hin rfl (by decide +kernel) rfl rfl (Nat.le_of_ble_eq_true rfl) dX0_init_9 (fun H locs hP hD hS => ?_)
  have hP : va_P D vwCl [(h0, .inr (0, [.ref a1])), (a1, .inl (cI, 65, .inl (fun _ => 0)))] H := hP
  have hD : va_D A [(h0, .inr (0, [.ref a1])), (a1, .inl (cI, 65, .inl (fun _ => 0)))] := hD
  have hP9 := hP.sub (ws' := [(h0, .inr (0, [.ref a1])), (a1, .inl (cI, 65, .inl (fun _ => 0)))]) [0, 1] rfl
  have hD9 := hD.sub (ws' := [(h0, .inr (0, [.ref a1])), (a1, .inl (cI, 65, .inl (fun _ => 0)))]) [0, 1] (by decide) rfl
  exact W.vret hx hb hr (fun t ht hW => ⟨⟨(), rfl, trivial, a1, by rw [ht]; exact hP9, hD9⟩, hS.F ht⟩) hS.2.2 dX0_init_12
abbrev rX1_init : Room := { frames := 1, cells := 1, slots := 65, locals := 20 }
set_option maxHeartbeats 4000000 in
set_option maxRecDepth 100000 in
theorem kX1_init (l : Launch) (D : va_G) (cI cJ cD : ClassId) (h0 sz : Nat) : Met l yX1_init wsX1_init rX1_init (gPn D cI cJ cD sz [.ref h0] [(h0, .inr (1, [.null, .int 0]))]) (va_Qv (fun _ => True) (fun (_ : Unit) t => ∃ a1 : Nat, va_P D vwCl [(h0, .inr (1, [.ref a1, .int 0])), (a1, .inl (cI, 65, .inl (fun _ => 0)))] t.heap ∧ va_D (va_A [(h0, .inr (1, [.null, .int 0]))] sz) [(h0, .inr (1, [.ref a1, .int 0])), (a1, .inl (cI, 65, .inl (fun _ => 0)))]) (va_A [(h0, .inr (1, [.null, .int 0]))] sz)) 1 65 (va_A [(h0, .inr (1, [.null, .int 0]))] sz) := by
  refine Met.ofW (cc := cX1_init) (maxL := 1) (ret := none) (by decide +kernel) rfl ?_
  intro p e s m args below meth c s₁ B hml hv
  obtain ⟨rfl, hsz, hP, hE, hD0⟩ := hv
  have hx := B.exec
  have hb := B.bytes
  have hr := B.returns
  have hts := atoms_spec (ws := wsX1_init) B.pre
  have hown : s.vm.findClass RX1 = some m.cls := findClass_of_methodNamed B.named
  have hlocks := B.notSynchronized
  have hin : meth.name = "<init>" := (name_of_methodNamed B.named B.method).1
  subst hsz
  have hD := hD0.self (sz := s.heap.size)
  generalize hAe : va_A [(h0, .inr (1, [.null, .int 0]))] s.heap.size = A at hD ⊢
  have hA : ∀ q : Nat, s.heap.size ≤ q → A q := fun q h => by rw [← hAe]; exact Or.inr h
  have hS : va_S A s.heap s.heap [] := va_S.rf
  have hP : va_P D vwCl [(h0, .inr (1, [.null, .int 0]))] s.heap := hP
  have hl := lv_entry ([.ref h0]) (n := 1) (Nat.le_of_ble_eq_true rfl)
  rw [lg_entry_eq]
  generalize (lg_sl ([.ref h0]) ++ List.replicate (1 - (lg_sl ([.ref h0])).length) Slot.unset).toArray = ls at hl ⊢
  have hl : lv_has ls 1 [(0, .ref h0)] := hl
  have huX1 : ∀ w ∈ u_ws RX1 TX1 2, w ∈ wsX1_init := by decide +kernel
  refine lv_aload_n hx hb dX1_init_0 rfl (lv_at hl 0 rfl) ?_
  refine W.objInit hx hb hown (hts (.methodLink RX1 3 objectInit) (by decide +kernel)) (hts (.instanceMethod objectInit) (by decide +kernel)) (hts (.code objectInit ⟨#[0xb1]⟩ 1 none) (by decide +kernel)) rfl (by rw [hml]; exact hl.1) rfl dX1_init_1 (Nat.le_of_ble_eq_true rfl) (Nat.le_of_ble_eq_true rfl) ?_
  refine W.eq (g2 := F0 m 4 ls []) rfl ?_
  refine lv_aload_n hx hb dX1_init_4 rfl (lv_at hl 0 rfl) ?_
  refine lv_bipush (v := 65) hx hb dX1_init_5 (by decide) ?_
  refine g_newa (ty := .int) (atype := .int) (N' := 65) (a0 := (65, .inl (fun _ => 0))) hx hb (hts (.arrayClass .int) (by decide +kernel)) rfl (hE.1.2 0 _ rfl).2 hE.1 hP hD hS hA (fun _ => rfl) (by decide) (by decide) (Nat.le_of_ble_eq_true rfl) (Nat.le_of_ble_eq_true rfl) (Nat.le_of_ble_eq_true rfl) dX1_init_7 (fun a1 H hP hD hS => ?_)
  have hP : va_P D vwCl [(h0, .inr (1, [.null, .int 0])), (a1, .inl (cI, 65, .inl (fun _ => 0)))] H := hP
  have hD : va_D A [(h0, .inr (1, [.null, .int 0])), (a1, .inl (cI, 65, .inl (fun _ => 0)))] := hD
  refine va_putF (D := D) (ci := 1) (v := .ref a1) (ty := .array .int) (C := RX1) (T := TX1) (N := 2) hx hb hts huX1 tyX1 tyX1_ok nmX1 hown hE.1 hP hD hS 0 rfl rfl 0 (by decide) (hts (.fieldLink RX1 9 "LyndonText$Factors" "starts" "[I") (by decide +kernel)) (fun _ h9 => h9) rfl hin rfl (by decide +kernel) rfl rfl (Nat.le_of_ble_eq_true rfl) dX1_init_9 (fun H locs hP hD hS => ?_)
  have hP : va_P D vwCl [(h0, .inr (1, [.ref a1, .int 0])), (a1, .inl (cI, 65, .inl (fun _ => 0)))] H := hP
  have hD : va_D A [(h0, .inr (1, [.ref a1, .int 0])), (a1, .inl (cI, 65, .inl (fun _ => 0)))] := hD
  refine lv_aload_n hx hb dX1_init_12 rfl (lv_at hl 0 rfl) ?_
  refine lv_iconst (v := 0) hx hb dX1_init_13 (by decide) ?_
  refine va_put (D := D) (ci := 1) (v := .int 0) (ty := .int) (C := RX1) (T := TX1) (N := 2) hx hb hts huX1 tyX1 tyX1_ok nmX1 hown hE.1 hP hD hS 0 rfl rfl 1 (by decide) (hts (.fieldLink RX1 15 "LyndonText$Factors" "count" "I") (by decide +kernel)) (fun _ h9 => h9) rfl (by decide +kernel) rfl rfl (Nat.le_of_ble_eq_true rfl) dX1_init_14 (fun H locs hP hD hS => ?_)
  have hP : va_P D vwCl [(h0, .inr (1, [.ref a1, .int 0])), (a1, .inl (cI, 65, .inl (fun _ => 0)))] H := hP
  have hD : va_D A [(h0, .inr (1, [.ref a1, .int 0])), (a1, .inl (cI, 65, .inl (fun _ => 0)))] := hD
  have hP9 := hP.sub (ws' := [(h0, .inr (1, [.ref a1, .int 0])), (a1, .inl (cI, 65, .inl (fun _ => 0)))]) [0, 1] rfl
  have hD9 := hD.sub (ws' := [(h0, .inr (1, [.ref a1, .int 0])), (a1, .inl (cI, 65, .inl (fun _ => 0)))]) [0, 1] (by decide) rfl
  exact W.vret hx hb hr (fun t ht hW => ⟨⟨(), rfl, trivial, a1, by rw [ht]; exact hP9, hD9⟩, hS.F ht⟩) hS.2.2 dX1_init_17
abbrev rX2_init : Room := { frames := 1, cells := 1, slots := 64, locals := 20 }
set_option maxHeartbeats 4000000 in
set_option maxRecDepth 100000 in
theorem kX2_init (l : Launch) (D : va_G) (cI cJ cD : ClassId) (h0 sz : Nat) : Met l yX2_init wsX2_init rX2_init (gPn D cI cJ cD sz [.ref h0] [(h0, .inr (2, [.null, .int 0]))]) (va_Qv (fun _ => True) (fun (_ : Unit) t => ∃ a1 : Nat, va_P D vwCl [(h0, .inr (2, [.ref a1, .int 0])), (a1, .inl (cI, 64, .inl (fun _ => 0)))] t.heap ∧ va_D (va_A [(h0, .inr (2, [.null, .int 0]))] sz) [(h0, .inr (2, [.ref a1, .int 0])), (a1, .inl (cI, 64, .inl (fun _ => 0)))]) (va_A [(h0, .inr (2, [.null, .int 0]))] sz)) 1 64 (va_A [(h0, .inr (2, [.null, .int 0]))] sz) := by
  refine Met.ofW (cc := cX2_init) (maxL := 1) (ret := none) (by decide +kernel) rfl ?_
  intro p e s m args below meth c s₁ B hml hv
  obtain ⟨rfl, hsz, hP, hE, hD0⟩ := hv
  have hx := B.exec
  have hb := B.bytes
  have hr := B.returns
  have hts := atoms_spec (ws := wsX2_init) B.pre
  have hown : s.vm.findClass RX2 = some m.cls := findClass_of_methodNamed B.named
  have hlocks := B.notSynchronized
  have hin : meth.name = "<init>" := (name_of_methodNamed B.named B.method).1
  subst hsz
  have hD := hD0.self (sz := s.heap.size)
  generalize hAe : va_A [(h0, .inr (2, [.null, .int 0]))] s.heap.size = A at hD ⊢
  have hA : ∀ q : Nat, s.heap.size ≤ q → A q := fun q h => by rw [← hAe]; exact Or.inr h
  have hS : va_S A s.heap s.heap [] := va_S.rf
  have hP : va_P D vwCl [(h0, .inr (2, [.null, .int 0]))] s.heap := hP
  have hl := lv_entry ([.ref h0]) (n := 1) (Nat.le_of_ble_eq_true rfl)
  rw [lg_entry_eq]
  generalize (lg_sl ([.ref h0]) ++ List.replicate (1 - (lg_sl ([.ref h0])).length) Slot.unset).toArray = ls at hl ⊢
  have hl : lv_has ls 1 [(0, .ref h0)] := hl
  have huX2 : ∀ w ∈ u_ws RX2 TX2 2, w ∈ wsX2_init := by decide +kernel
  refine lv_aload_n hx hb dX2_init_0 rfl (lv_at hl 0 rfl) ?_
  refine W.objInit hx hb hown (hts (.methodLink RX2 3 objectInit) (by decide +kernel)) (hts (.instanceMethod objectInit) (by decide +kernel)) (hts (.code objectInit ⟨#[0xb1]⟩ 1 none) (by decide +kernel)) rfl (by rw [hml]; exact hl.1) rfl dX2_init_1 (Nat.le_of_ble_eq_true rfl) (Nat.le_of_ble_eq_true rfl) ?_
  refine W.eq (g2 := F0 m 4 ls []) rfl ?_
  refine lv_aload_n hx hb dX2_init_4 rfl (lv_at hl 0 rfl) ?_
  refine lv_bipush (v := 64) hx hb dX2_init_5 (by decide) ?_
  refine g_newa (ty := .int) (atype := .int) (N' := 64) (a0 := (64, .inl (fun _ => 0))) hx hb (hts (.arrayClass .int) (by decide +kernel)) rfl (hE.1.2 0 _ rfl).2 hE.1 hP hD hS hA (fun _ => rfl) (by decide) (by decide) (Nat.le_of_ble_eq_true rfl) (Nat.le_of_ble_eq_true rfl) (Nat.le_of_ble_eq_true rfl) dX2_init_7 (fun a1 H hP hD hS => ?_)
  have hP : va_P D vwCl [(h0, .inr (2, [.null, .int 0])), (a1, .inl (cI, 64, .inl (fun _ => 0)))] H := hP
  have hD : va_D A [(h0, .inr (2, [.null, .int 0])), (a1, .inl (cI, 64, .inl (fun _ => 0)))] := hD
  refine va_putF (D := D) (ci := 2) (v := .ref a1) (ty := .array .int) (C := RX2) (T := TX2) (N := 2) hx hb hts huX2 tyX2 tyX2_ok nmX2 hown hE.1 hP hD hS 0 rfl rfl 0 (by decide) (hts (.fieldLink RX2 9 "LyndonText$Letters" "row" "[I") (by decide +kernel)) (fun _ h9 => h9) rfl hin rfl (by decide +kernel) rfl rfl (Nat.le_of_ble_eq_true rfl) dX2_init_9 (fun H locs hP hD hS => ?_)
  have hP : va_P D vwCl [(h0, .inr (2, [.ref a1, .int 0])), (a1, .inl (cI, 64, .inl (fun _ => 0)))] H := hP
  have hD : va_D A [(h0, .inr (2, [.ref a1, .int 0])), (a1, .inl (cI, 64, .inl (fun _ => 0)))] := hD
  refine lv_aload_n hx hb dX2_init_12 rfl (lv_at hl 0 rfl) ?_
  refine lv_iconst (v := 0) hx hb dX2_init_13 (by decide) ?_
  refine va_put (D := D) (ci := 2) (v := .int 0) (ty := .int) (C := RX2) (T := TX2) (N := 2) hx hb hts huX2 tyX2 tyX2_ok nmX2 hown hE.1 hP hD hS 0 rfl rfl 1 (by decide) (hts (.fieldLink RX2 15 "LyndonText$Letters" "count" "I") (by decide +kernel)) (fun _ h9 => h9) rfl (by decide +kernel) rfl rfl (Nat.le_of_ble_eq_true rfl) dX2_init_14 (fun H locs hP hD hS => ?_)
  have hP : va_P D vwCl [(h0, .inr (2, [.ref a1, .int 0])), (a1, .inl (cI, 64, .inl (fun _ => 0)))] H := hP
  have hD : va_D A [(h0, .inr (2, [.ref a1, .int 0])), (a1, .inl (cI, 64, .inl (fun _ => 0)))] := hD
  have hP9 := hP.sub (ws' := [(h0, .inr (2, [.ref a1, .int 0])), (a1, .inl (cI, 64, .inl (fun _ => 0)))]) [0, 1] rfl
  have hD9 := hD.sub (ws' := [(h0, .inr (2, [.ref a1, .int 0])), (a1, .inl (cI, 64, .inl (fun _ => 0)))]) [0, 1] (by decide) rfl
  exact W.vret hx hb hr (fun t ht hW => ⟨⟨(), rfl, trivial, a1, by rw [ht]; exact hP9, hD9⟩, hS.F ht⟩) hS.2.2 dX2_init_17
abbrev rX3_init : Room := { frames := 1, cells := 0, slots := 0, locals := 20 }
set_option maxHeartbeats 4000000 in
set_option maxRecDepth 100000 in
theorem kX3_init (l : Launch) (D : va_G) (cI cJ cD : ClassId) (h0 sz : Nat) : Met l yX3_init wsX3_init rX3_init (gPn D cI cJ cD sz [.ref h0] [(h0, .inr (3, [.int 0, .int 0, .int 0, .int 0]))]) (va_Qv (fun _ => True) (fun (_ : Unit) t => va_P D vwCl [(h0, .inr (3, [.int 0, .int 1, .int 0, .int 1]))] t.heap ∧ va_D (va_A [(h0, .inr (3, [.int 0, .int 0, .int 0, .int 0]))] sz) [(h0, .inr (3, [.int 0, .int 1, .int 0, .int 1]))]) (va_A [(h0, .inr (3, [.int 0, .int 0, .int 0, .int 0]))] sz)) 0 0 (va_A [(h0, .inr (3, [.int 0, .int 0, .int 0, .int 0]))] sz) := by
  refine Met.ofW (cc := cX3_init) (maxL := 1) (ret := none) (by decide +kernel) rfl ?_
  intro p e s m args below meth c s₁ B hml hv
  obtain ⟨rfl, hsz, hP, hE, hD0⟩ := hv
  have hx := B.exec
  have hb := B.bytes
  have hr := B.returns
  have hts := atoms_spec (ws := wsX3_init) B.pre
  have hown : s.vm.findClass RX3 = some m.cls := findClass_of_methodNamed B.named
  have hlocks := B.notSynchronized
  have hin : meth.name = "<init>" := (name_of_methodNamed B.named B.method).1
  subst hsz
  have hD := hD0.self (sz := s.heap.size)
  generalize hAe : va_A [(h0, .inr (3, [.int 0, .int 0, .int 0, .int 0]))] s.heap.size = A at hD ⊢
  have hA : ∀ q : Nat, s.heap.size ≤ q → A q := fun q h => by rw [← hAe]; exact Or.inr h
  have hS : va_S A s.heap s.heap [] := va_S.rf
  have hP : va_P D vwCl [(h0, .inr (3, [.int 0, .int 0, .int 0, .int 0]))] s.heap := hP
  have hl := lv_entry ([.ref h0]) (n := 1) (Nat.le_of_ble_eq_true rfl)
  rw [lg_entry_eq]
  generalize (lg_sl ([.ref h0]) ++ List.replicate (1 - (lg_sl ([.ref h0])).length) Slot.unset).toArray = ls at hl ⊢
  have hl : lv_has ls 1 [(0, .ref h0)] := hl
  have huX3 : ∀ w ∈ u_ws RX3 TX3 4, w ∈ wsX3_init := by decide +kernel
  refine lv_aload_n hx hb dX3_init_0 rfl (lv_at hl 0 rfl) ?_
  refine W.objInit hx hb hown (hts (.methodLink RX3 1 objectInit) (by decide +kernel)) (hts (.instanceMethod objectInit) (by decide +kernel)) (hts (.code objectInit ⟨#[0xb1]⟩ 1 none) (by decide +kernel)) rfl (by rw [hml]; exact hl.1) rfl dX3_init_1 (Nat.le_of_ble_eq_true rfl) (Nat.le_of_ble_eq_true rfl) ?_
  refine W.eq (g2 := F0 m 4 ls []) rfl ?_
  refine lv_aload_n hx hb dX3_init_4 rfl (lv_at hl 0 rfl) ?_
  refine lv_iconst (v := 0) hx hb dX3_init_5 (by decide) ?_
  refine va_put (D := D) (ci := 3) (v := .int 0) (ty := .int) (C := RX3) (T := TX3) (N := 4) hx hb hts huX3 tyX3 tyX3_ok nmX3 hown hE.1 hP hD hS 0 rfl rfl 0 (by decide) (hts (.fieldLink RX3 7 "LyndonText$NecklaceWalk" "greatest" "I") (by decide +kernel)) (fun _ h9 => h9) rfl (by decide +kernel) rfl rfl (Nat.le_of_ble_eq_true rfl) dX3_init_6 (fun H locs hP hD hS => ?_)
  have hP : va_P D vwCl [(h0, .inr (3, [.int 0, .int 0, .int 0, .int 0]))] H := hP
  have hD : va_D A [(h0, .inr (3, [.int 0, .int 0, .int 0, .int 0]))] := hD
  refine lv_aload_n hx hb dX3_init_9 rfl (lv_at hl 0 rfl) ?_
  refine lv_iconst (v := 1) hx hb dX3_init_10 (by decide) ?_
  refine va_put (D := D) (ci := 3) (v := .int 1) (ty := .int) (C := RX3) (T := TX3) (N := 4) hx hb hts huX3 tyX3 tyX3_ok nmX3 hown hE.1 hP hD hS 0 rfl rfl 1 (by decide) (hts (.fieldLink RX3 13 "LyndonText$NecklaceWalk" "size" "I") (by decide +kernel)) (fun _ h9 => h9) rfl (by decide +kernel) rfl rfl (Nat.le_of_ble_eq_true rfl) dX3_init_11 (fun H locs hP hD hS => ?_)
  have hP : va_P D vwCl [(h0, .inr (3, [.int 0, .int 1, .int 0, .int 0]))] H := hP
  have hD : va_D A [(h0, .inr (3, [.int 0, .int 1, .int 0, .int 0]))] := hD
  refine lv_aload_n hx hb dX3_init_14 rfl (lv_at hl 0 rfl) ?_
  refine lv_iconst (v := 0) hx hb dX3_init_15 (by decide) ?_
  refine va_put (D := D) (ci := 3) (v := .int 0) (ty := .int) (C := RX3) (T := TX3) (N := 4) hx hb hts huX3 tyX3 tyX3_ok nmX3 hown hE.1 hP hD hS 0 rfl rfl 2 (by decide) (hts (.fieldLink RX3 16 "LyndonText$NecklaceWalk" "word" "I") (by decide +kernel)) (fun _ h9 => h9) rfl (by decide +kernel) rfl rfl (Nat.le_of_ble_eq_true rfl) dX3_init_16 (fun H locs hP hD hS => ?_)
  have hP : va_P D vwCl [(h0, .inr (3, [.int 0, .int 1, .int 0, .int 0]))] H := hP
  have hD : va_D A [(h0, .inr (3, [.int 0, .int 1, .int 0, .int 0]))] := hD
  refine lv_aload_n hx hb dX3_init_19 rfl (lv_at hl 0 rfl) ?_
  refine lv_iconst (v := 1) hx hb dX3_init_20 (by decide) ?_
  refine va_put (D := D) (ci := 3) (v := .int 1) (ty := .int) (C := RX3) (T := TX3) (N := 4) hx hb hts huX3 tyX3 tyX3_ok nmX3 hown hE.1 hP hD hS 0 rfl rfl 3 (by decide) (hts (.fieldLink RX3 19 "LyndonText$NecklaceWalk" "root" "I") (by decide +kernel)) (fun _ h9 => h9) rfl (by decide +kernel) rfl rfl (Nat.le_of_ble_eq_true rfl) dX3_init_21 (fun H locs hP hD hS => ?_)
  have hP : va_P D vwCl [(h0, .inr (3, [.int 0, .int 1, .int 0, .int 1]))] H := hP
  have hD : va_D A [(h0, .inr (3, [.int 0, .int 1, .int 0, .int 1]))] := hD
  have hP9 := hP.sub (ws' := [(h0, .inr (3, [.int 0, .int 1, .int 0, .int 1]))]) [0] rfl
  have hD9 := hD.sub (ws' := [(h0, .inr (3, [.int 0, .int 1, .int 0, .int 1]))]) [0] (by decide) rfl
  exact W.vret hx hb hr (fun t ht hW => ⟨⟨(), rfl, trivial, by rw [ht]; exact hP9, hD9⟩, hS.F ht⟩) hS.2.2 dX3_init_24
abbrev rX6_init : Room := { frames := 1, cells := 3, slots := 192, locals := 20 }
set_option maxHeartbeats 4000000 in
set_option maxRecDepth 100000 in
theorem kX6_init (l : Launch) (D : va_G) (cI cJ cD : ClassId) (h0 sz : Nat) : Met l yX6_init wsX6_init rX6_init (gPn D cI cJ cD sz [.ref h0] [(h0, .inr (4, [.null, .null, .null, .int 0]))]) (va_Qv (fun _ => True) (fun (_ : Unit) t => ∃ a1 a2 a3 : Nat, va_P D vwCl [(h0, .inr (4, [.ref a1, .ref a2, .ref a3, .int 0])), (a1, .inl (cI, 64, .inl (fun _ => 0))), (a2, .inl (cI, 64, .inl (fun _ => 0))), (a3, .inl (cI, 64, .inl (fun _ => 0)))] t.heap ∧ va_D (va_A [(h0, .inr (4, [.null, .null, .null, .int 0]))] sz) [(h0, .inr (4, [.ref a1, .ref a2, .ref a3, .int 0])), (a1, .inl (cI, 64, .inl (fun _ => 0))), (a2, .inl (cI, 64, .inl (fun _ => 0))), (a3, .inl (cI, 64, .inl (fun _ => 0)))]) (va_A [(h0, .inr (4, [.null, .null, .null, .int 0]))] sz)) 3 192 (va_A [(h0, .inr (4, [.null, .null, .null, .int 0]))] sz) := by
  refine Met.ofW (cc := cX6_init) (maxL := 1) (ret := none) (by decide +kernel) rfl ?_
  intro p e s m args below meth c s₁ B hml hv
  obtain ⟨rfl, hsz, hP, hE, hD0⟩ := hv
  have hx := B.exec
  have hb := B.bytes
  have hr := B.returns
  have hts := atoms_spec (ws := wsX6_init) B.pre
  have hown : s.vm.findClass RX6 = some m.cls := findClass_of_methodNamed B.named
  have hlocks := B.notSynchronized
  have hin : meth.name = "<init>" := (name_of_methodNamed B.named B.method).1
  subst hsz
  have hD := hD0.self (sz := s.heap.size)
  generalize hAe : va_A [(h0, .inr (4, [.null, .null, .null, .int 0]))] s.heap.size = A at hD ⊢
  have hA : ∀ q : Nat, s.heap.size ≤ q → A q := fun q h => by rw [← hAe]; exact Or.inr h
  have hS : va_S A s.heap s.heap [] := va_S.rf
  have hP : va_P D vwCl [(h0, .inr (4, [.null, .null, .null, .int 0]))] s.heap := hP
  have hl := lv_entry ([.ref h0]) (n := 1) (Nat.le_of_ble_eq_true rfl)
  rw [lg_entry_eq]
  generalize (lg_sl ([.ref h0]) ++ List.replicate (1 - (lg_sl ([.ref h0])).length) Slot.unset).toArray = ls at hl ⊢
  have hl : lv_has ls 1 [(0, .ref h0)] := hl
  have huX6 : ∀ w ∈ u_ws RX6 TX6 4, w ∈ wsX6_init := by decide +kernel
  refine lv_aload_n hx hb dX6_init_0 rfl (lv_at hl 0 rfl) ?_
  refine W.objInit hx hb hown (hts (.methodLink RX6 3 objectInit) (by decide +kernel)) (hts (.instanceMethod objectInit) (by decide +kernel)) (hts (.code objectInit ⟨#[0xb1]⟩ 1 none) (by decide +kernel)) rfl (by rw [hml]; exact hl.1) rfl dX6_init_1 (Nat.le_of_ble_eq_true rfl) (Nat.le_of_ble_eq_true rfl) ?_
  refine W.eq (g2 := F0 m 4 ls []) rfl ?_
  refine lv_aload_n hx hb dX6_init_4 rfl (lv_at hl 0 rfl) ?_
  refine lv_bipush (v := 64) hx hb dX6_init_5 (by decide) ?_
  refine g_newa (ty := .int) (atype := .int) (N' := 64) (a0 := (64, .inl (fun _ => 0))) hx hb (hts (.arrayClass .int) (by decide +kernel)) rfl (hE.1.2 0 _ rfl).2 hE.1 hP hD hS hA (fun _ => rfl) (by decide) (by decide) (Nat.le_of_ble_eq_true rfl) (Nat.le_of_ble_eq_true rfl) (Nat.le_of_ble_eq_true rfl) dX6_init_7 (fun a1 H hP hD hS => ?_)
  have hP : va_P D vwCl [(h0, .inr (4, [.null, .null, .null, .int 0])), (a1, .inl (cI, 64, .inl (fun _ => 0)))] H := hP
  have hD : va_D A [(h0, .inr (4, [.null, .null, .null, .int 0])), (a1, .inl (cI, 64, .inl (fun _ => 0)))] := hD
  refine va_putF (D := D) (ci := 4) (v := .ref a1) (ty := .array .int) (C := RX6) (T := TX6) (N := 4) hx hb hts huX6 tyX6 tyX6_ok nmX6 hown hE.1 hP hD hS 0 rfl rfl 0 (by decide) (hts (.fieldLink RX6 9 "LyndonText$Runs" "starts" "[I") (by decide +kernel)) (fun _ h9 => h9) rfl hin rfl (by decide +kernel) rfl rfl (Nat.le_of_ble_eq_true rfl) dX6_init_9 (fun H locs hP hD hS => ?_)
  have hP : va_P D vwCl [(h0, .inr (4, [.ref a1, .null, .null, .int 0])), (a1, .inl (cI, 64, .inl (fun _ => 0)))] H := hP
  have hD : va_D A [(h0, .inr (4, [.ref a1, .null, .null, .int 0])), (a1, .inl (cI, 64, .inl (fun _ => 0)))] := hD
  refine lv_aload_n hx hb dX6_init_12 rfl (lv_at hl 0 rfl) ?_
  refine lv_bipush (v := 64) hx hb dX6_init_13 (by decide) ?_
  refine g_newa (ty := .int) (atype := .int) (N' := 64) (a0 := (64, .inl (fun _ => 0))) hx hb (hts (.arrayClass .int) (by decide +kernel)) rfl (hE.1.2 0 _ rfl).2 hE.1 hP hD hS hA (fun _ => rfl) (by decide) (by decide) (Nat.le_of_ble_eq_true rfl) (Nat.le_of_ble_eq_true rfl) (Nat.le_of_ble_eq_true rfl) dX6_init_15 (fun a2 H hP hD hS => ?_)
  have hP : va_P D vwCl [(h0, .inr (4, [.ref a1, .null, .null, .int 0])), (a1, .inl (cI, 64, .inl (fun _ => 0))), (a2, .inl (cI, 64, .inl (fun _ => 0)))] H := hP
  have hD : va_D A [(h0, .inr (4, [.ref a1, .null, .null, .int 0])), (a1, .inl (cI, 64, .inl (fun _ => 0))), (a2, .inl (cI, 64, .inl (fun _ => 0)))] := hD
  refine va_putF (D := D) (ci := 4) (v := .ref a2) (ty := .array .int) (C := RX6) (T := TX6) (N := 4) hx hb hts huX6 tyX6 tyX6_ok nmX6 hown hE.1 hP hD hS 0 rfl rfl 1 (by decide) (hts (.fieldLink RX6 15 "LyndonText$Runs" "ends" "[I") (by decide +kernel)) (fun _ h9 => h9) rfl hin rfl (by decide +kernel) rfl rfl (Nat.le_of_ble_eq_true rfl) dX6_init_17 (fun H locs hP hD hS => ?_)
  have hP : va_P D vwCl [(h0, .inr (4, [.ref a1, .ref a2, .null, .int 0])), (a1, .inl (cI, 64, .inl (fun _ => 0))), (a2, .inl (cI, 64, .inl (fun _ => 0)))] H := hP
  have hD : va_D A [(h0, .inr (4, [.ref a1, .ref a2, .null, .int 0])), (a1, .inl (cI, 64, .inl (fun _ => 0))), (a2, .inl (cI, 64, .inl (fun _ => 0)))] := hD
  refine lv_aload_n hx hb dX6_init_20 rfl (lv_at hl 0 rfl) ?_
  refine lv_bipush (v := 64) hx hb dX6_init_21 (by decide) ?_
  refine g_newa (ty := .int) (atype := .int) (N' := 64) (a0 := (64, .inl (fun _ => 0))) hx hb (hts (.arrayClass .int) (by decide +kernel)) rfl (hE.1.2 0 _ rfl).2 hE.1 hP hD hS hA (fun _ => rfl) (by decide) (by decide) (Nat.le_of_ble_eq_true rfl) (Nat.le_of_ble_eq_true rfl) (Nat.le_of_ble_eq_true rfl) dX6_init_23 (fun a3 H hP hD hS => ?_)
  have hP : va_P D vwCl [(h0, .inr (4, [.ref a1, .ref a2, .null, .int 0])), (a1, .inl (cI, 64, .inl (fun _ => 0))), (a2, .inl (cI, 64, .inl (fun _ => 0))), (a3, .inl (cI, 64, .inl (fun _ => 0)))] H := hP
  have hD : va_D A [(h0, .inr (4, [.ref a1, .ref a2, .null, .int 0])), (a1, .inl (cI, 64, .inl (fun _ => 0))), (a2, .inl (cI, 64, .inl (fun _ => 0))), (a3, .inl (cI, 64, .inl (fun _ => 0)))] := hD
  refine va_putF (D := D) (ci := 4) (v := .ref a3) (ty := .array .int) (C := RX6) (T := TX6) (N := 4) hx hb hts huX6 tyX6 tyX6_ok nmX6 hown hE.1 hP hD hS 0 rfl rfl 2 (by decide) (hts (.fieldLink RX6 18 "LyndonText$Runs" "distances" "[I") (by decide +kernel)) (fun _ h9 => h9) rfl hin rfl (by decide +kernel) rfl rfl (Nat.le_of_ble_eq_true rfl) dX6_init_25 (fun H locs hP hD hS => ?_)
  have hP : va_P D vwCl [(h0, .inr (4, [.ref a1, .ref a2, .ref a3, .int 0])), (a1, .inl (cI, 64, .inl (fun _ => 0))), (a2, .inl (cI, 64, .inl (fun _ => 0))), (a3, .inl (cI, 64, .inl (fun _ => 0)))] H := hP
  have hD : va_D A [(h0, .inr (4, [.ref a1, .ref a2, .ref a3, .int 0])), (a1, .inl (cI, 64, .inl (fun _ => 0))), (a2, .inl (cI, 64, .inl (fun _ => 0))), (a3, .inl (cI, 64, .inl (fun _ => 0)))] := hD
  refine lv_aload_n hx hb dX6_init_28 rfl (lv_at hl 0 rfl) ?_
  refine lv_iconst (v := 0) hx hb dX6_init_29 (by decide) ?_
  refine va_put (D := D) (ci := 4) (v := .int 0) (ty := .int) (C := RX6) (T := TX6) (N := 4) hx hb hts huX6 tyX6 tyX6_ok nmX6 hown hE.1 hP hD hS 0 rfl rfl 3 (by decide) (hts (.fieldLink RX6 21 "LyndonText$Runs" "count" "I") (by decide +kernel)) (fun _ h9 => h9) rfl (by decide +kernel) rfl rfl (Nat.le_of_ble_eq_true rfl) dX6_init_30 (fun H locs hP hD hS => ?_)
  have hP : va_P D vwCl [(h0, .inr (4, [.ref a1, .ref a2, .ref a3, .int 0])), (a1, .inl (cI, 64, .inl (fun _ => 0))), (a2, .inl (cI, 64, .inl (fun _ => 0))), (a3, .inl (cI, 64, .inl (fun _ => 0)))] H := hP
  have hD : va_D A [(h0, .inr (4, [.ref a1, .ref a2, .ref a3, .int 0])), (a1, .inl (cI, 64, .inl (fun _ => 0))), (a2, .inl (cI, 64, .inl (fun _ => 0))), (a3, .inl (cI, 64, .inl (fun _ => 0)))] := hD
  have hP9 := hP.sub (ws' := [(h0, .inr (4, [.ref a1, .ref a2, .ref a3, .int 0])), (a1, .inl (cI, 64, .inl (fun _ => 0))), (a2, .inl (cI, 64, .inl (fun _ => 0))), (a3, .inl (cI, 64, .inl (fun _ => 0)))]) [0, 1, 2, 3] rfl
  have hD9 := hD.sub (ws' := [(h0, .inr (4, [.ref a1, .ref a2, .ref a3, .int 0])), (a1, .inl (cI, 64, .inl (fun _ => 0))), (a2, .inl (cI, 64, .inl (fun _ => 0))), (a3, .inl (cI, 64, .inl (fun _ => 0)))]) [0, 1, 2, 3] (by decide) rfl
  exact W.vret hx hb hr (fun t ht hW => ⟨⟨(), rfl, trivial, a1, a2, a3, by rw [ht]; exact hP9, hD9⟩, hS.F ht⟩) hS.2.2 dX6_init_33
abbrev rX7_init : Room := { frames := 1, cells := 1, slots := 65, locals := 20 }
set_option maxHeartbeats 4000000 in
set_option maxRecDepth 100000 in
theorem kX7_init (l : Launch) (D : va_G) (cI cJ cD : ClassId) (h0 sz : Nat) : Met l yX7_init wsX7_init rX7_init (gPn D cI cJ cD sz [.ref h0] [(h0, .inr (5, [.null]))]) (va_Qv (fun _ => True) (fun (_ : Unit) t => ∃ a1 : Nat, va_P D vwCl [(h0, .inr (5, [.ref a1])), (a1, .inl (cI, 65, .inl (fun _ => 0)))] t.heap ∧ va_D (va_A [(h0, .inr (5, [.null]))] sz) [(h0, .inr (5, [.ref a1])), (a1, .inl (cI, 65, .inl (fun _ => 0)))]) (va_A [(h0, .inr (5, [.null]))] sz)) 1 65 (va_A [(h0, .inr (5, [.null]))] sz) := by
  refine Met.ofW (cc := cX7_init) (maxL := 1) (ret := none) (by decide +kernel) rfl ?_
  intro p e s m args below meth c s₁ B hml hv
  obtain ⟨rfl, hsz, hP, hE, hD0⟩ := hv
  have hx := B.exec
  have hb := B.bytes
  have hr := B.returns
  have hts := atoms_spec (ws := wsX7_init) B.pre
  have hown : s.vm.findClass RX7 = some m.cls := findClass_of_methodNamed B.named
  have hlocks := B.notSynchronized
  have hin : meth.name = "<init>" := (name_of_methodNamed B.named B.method).1
  subst hsz
  have hD := hD0.self (sz := s.heap.size)
  generalize hAe : va_A [(h0, .inr (5, [.null]))] s.heap.size = A at hD ⊢
  have hA : ∀ q : Nat, s.heap.size ≤ q → A q := fun q h => by rw [← hAe]; exact Or.inr h
  have hS : va_S A s.heap s.heap [] := va_S.rf
  have hP : va_P D vwCl [(h0, .inr (5, [.null]))] s.heap := hP
  have hl := lv_entry ([.ref h0]) (n := 1) (Nat.le_of_ble_eq_true rfl)
  rw [lg_entry_eq]
  generalize (lg_sl ([.ref h0]) ++ List.replicate (1 - (lg_sl ([.ref h0])).length) Slot.unset).toArray = ls at hl ⊢
  have hl : lv_has ls 1 [(0, .ref h0)] := hl
  have huX7 : ∀ w ∈ u_ws RX7 TX7 1, w ∈ wsX7_init := by decide +kernel
  refine lv_aload_n hx hb dX7_init_0 rfl (lv_at hl 0 rfl) ?_
  refine W.objInit hx hb hown (hts (.methodLink RX7 3 objectInit) (by decide +kernel)) (hts (.instanceMethod objectInit) (by decide +kernel)) (hts (.code objectInit ⟨#[0xb1]⟩ 1 none) (by decide +kernel)) rfl (by rw [hml]; exact hl.1) rfl dX7_init_1 (Nat.le_of_ble_eq_true rfl) (Nat.le_of_ble_eq_true rfl) ?_
  refine W.eq (g2 := F0 m 4 ls []) rfl ?_
  refine lv_aload_n hx hb dX7_init_4 rfl (lv_at hl 0 rfl) ?_
  refine lv_bipush (v := 65) hx hb dX7_init_5 (by decide) ?_
  refine g_newa (ty := .int) (atype := .int) (N' := 65) (a0 := (65, .inl (fun _ => 0))) hx hb (hts (.arrayClass .int) (by decide +kernel)) rfl (hE.1.2 0 _ rfl).2 hE.1 hP hD hS hA (fun _ => rfl) (by decide) (by decide) (Nat.le_of_ble_eq_true rfl) (Nat.le_of_ble_eq_true rfl) (Nat.le_of_ble_eq_true rfl) dX7_init_7 (fun a1 H hP hD hS => ?_)
  have hP : va_P D vwCl [(h0, .inr (5, [.null])), (a1, .inl (cI, 65, .inl (fun _ => 0)))] H := hP
  have hD : va_D A [(h0, .inr (5, [.null])), (a1, .inl (cI, 65, .inl (fun _ => 0)))] := hD
  refine va_putF (D := D) (ci := 5) (v := .ref a1) (ty := .array .int) (C := RX7) (T := TX7) (N := 1) hx hb hts huX7 tyX7 tyX7_ok nmX7 hown hE.1 hP hD hS 0 rfl rfl 0 (by decide) (hts (.fieldLink RX7 9 "LyndonText$Suffixes" "ranks" "[I") (by decide +kernel)) (fun _ h9 => h9) rfl hin rfl (by decide +kernel) rfl rfl (Nat.le_of_ble_eq_true rfl) dX7_init_9 (fun H locs hP hD hS => ?_)
  have hP : va_P D vwCl [(h0, .inr (5, [.ref a1])), (a1, .inl (cI, 65, .inl (fun _ => 0)))] H := hP
  have hD : va_D A [(h0, .inr (5, [.ref a1])), (a1, .inl (cI, 65, .inl (fun _ => 0)))] := hD
  have hP9 := hP.sub (ws' := [(h0, .inr (5, [.ref a1])), (a1, .inl (cI, 65, .inl (fun _ => 0)))]) [0, 1] rfl
  have hD9 := hD.sub (ws' := [(h0, .inr (5, [.ref a1])), (a1, .inl (cI, 65, .inl (fun _ => 0)))]) [0, 1] (by decide) rfl
  exact W.vret hx hb hr (fun t ht hW => ⟨⟨(), rfl, trivial, a1, by rw [ht]; exact hP9, hD9⟩, hS.F ht⟩) hS.2.2 dX7_init_12
abbrev rX8_init : Room := { frames := 2, cells := 13, slots := 465, locals := 40 }
set_option maxHeartbeats 4000000 in
set_option maxRecDepth 100000 in
theorem kX8_init (l : Launch) (D : va_G) (cI cJ cD : ClassId) (h0 sz : Nat) : Met l yX8_init wsX8_init rX8_init (gPn D cI cJ cD sz [.ref h0] [(h0, .inr (6, [.null, .null, .null, .null, .null, .null]))]) (va_Qv (fun _ => True) (fun (_ : Unit) t => ∃ a1 a2 a3 a4 a5 a6 a7 a8 a9 a10 a11 a12 a13 : Nat, va_P D vwCl [(h0, .inr (6, [.ref a1, .ref a3, .ref a5, .ref a7, .ref a11, .ref a13])), (a1, .inr (2, [.ref a2, .int 0])), (a2, .inl (cI, 64, .inl (fun _ => 0))), (a3, .inr (1, [.ref a4, .int 0])), (a4, .inl (cI, 65, .inl (fun _ => 0))), (a5, .inr (0, [.ref a6])), (a6, .inl (cI, 65, .inl (fun _ => 0))), (a7, .inr (4, [.ref a8, .ref a9, .ref a10, .int 0])), (a8, .inl (cI, 64, .inl (fun _ => 0))), (a9, .inl (cI, 64, .inl (fun _ => 0))), (a10, .inl (cI, 64, .inl (fun _ => 0))), (a11, .inr (5, [.ref a12])), (a12, .inl (cI, 65, .inl (fun _ => 0))), (a13, .inr (3, [.int 0, .int 1, .int 0, .int 1]))] t.heap ∧ va_D (va_A [(h0, .inr (6, [.null, .null, .null, .null, .null, .null]))] sz) [(h0, .inr (6, [.ref a1, .ref a3, .ref a5, .ref a7, .ref a11, .ref a13])), (a1, .inr (2, [.ref a2, .int 0])), (a2, .inl (cI, 64, .inl (fun _ => 0))), (a3, .inr (1, [.ref a4, .int 0])), (a4, .inl (cI, 65, .inl (fun _ => 0))), (a5, .inr (0, [.ref a6])), (a6, .inl (cI, 65, .inl (fun _ => 0))), (a7, .inr (4, [.ref a8, .ref a9, .ref a10, .int 0])), (a8, .inl (cI, 64, .inl (fun _ => 0))), (a9, .inl (cI, 64, .inl (fun _ => 0))), (a10, .inl (cI, 64, .inl (fun _ => 0))), (a11, .inr (5, [.ref a12])), (a12, .inl (cI, 65, .inl (fun _ => 0))), (a13, .inr (3, [.int 0, .int 1, .int 0, .int 1]))]) (va_A [(h0, .inr (6, [.null, .null, .null, .null, .null, .null]))] sz)) 13 465 (va_A [(h0, .inr (6, [.null, .null, .null, .null, .null, .null]))] sz) := by
  refine Met.ofW (cc := cX8_init) (maxL := 1) (ret := none) (by decide +kernel) rfl ?_
  intro p e s m args below meth c s₁ B hml hv
  obtain ⟨rfl, hsz, hP, hE, hD0⟩ := hv
  have hx := B.exec
  have hb := B.bytes
  have hr := B.returns
  have hts := atoms_spec (ws := wsX8_init) B.pre
  have hown : s.vm.findClass RX8 = some m.cls := findClass_of_methodNamed B.named
  have hlocks := B.notSynchronized
  have hin : meth.name = "<init>" := (name_of_methodNamed B.named B.method).1
  subst hsz
  have hD := hD0.self (sz := s.heap.size)
  generalize hAe : va_A [(h0, .inr (6, [.null, .null, .null, .null, .null, .null]))] s.heap.size = A at hD ⊢
  have hA : ∀ q : Nat, s.heap.size ≤ q → A q := fun q h => by rw [← hAe]; exact Or.inr h
  have hS : va_S A s.heap s.heap [] := va_S.rf
  have hP : va_P D vwCl [(h0, .inr (6, [.null, .null, .null, .null, .null, .null]))] s.heap := hP
  have hl := lv_entry ([.ref h0]) (n := 1) (Nat.le_of_ble_eq_true rfl)
  rw [lg_entry_eq]
  generalize (lg_sl ([.ref h0]) ++ List.replicate (1 - (lg_sl ([.ref h0])).length) Slot.unset).toArray = ls at hl ⊢
  have hl : lv_has ls 1 [(0, .ref h0)] := hl
  have huX0 : ∀ w ∈ u_ws RX0 TX0 1, w ∈ wsX8_init := by decide +kernel
  have huX1 : ∀ w ∈ u_ws RX1 TX1 2, w ∈ wsX8_init := by decide +kernel
  have huX2 : ∀ w ∈ u_ws RX2 TX2 2, w ∈ wsX8_init := by decide +kernel
  have huX3 : ∀ w ∈ u_ws RX3 TX3 4, w ∈ wsX8_init := by decide +kernel
  have huX6 : ∀ w ∈ u_ws RX6 TX6 4, w ∈ wsX8_init := by decide +kernel
  have huX7 : ∀ w ∈ u_ws RX7 TX7 1, w ∈ wsX8_init := by decide +kernel
  have huX8 : ∀ w ∈ u_ws RX8 TX8 6, w ∈ wsX8_init := by decide +kernel
  refine lv_aload_n hx hb dX8_init_0 rfl (lv_at hl 0 rfl) ?_
  refine W.objInit hx hb hown (hts (.methodLink RX8 1 objectInit) (by decide +kernel)) (hts (.instanceMethod objectInit) (by decide +kernel)) (hts (.code objectInit ⟨#[0xb1]⟩ 1 none) (by decide +kernel)) rfl (by rw [hml]; exact hl.1) rfl dX8_init_1 (Nat.le_of_ble_eq_true rfl) (Nat.le_of_ble_eq_true rfl) ?_
  refine W.eq (g2 := F0 m 4 ls []) rfl ?_
  refine lv_aload_n hx hb dX8_init_4 rfl (lv_at hl 0 rfl) ?_
  refine va_new (ci := 2) (fs := [.null, .int 0]) (C := RX2) (T := TX2) (N := 2) hx hb hts huX2 tyX2 tyX2_ok hown (hts (.classLink RX8 7 RX2) (by decide +kernel)) (hts (.instantiable RX2 2) (by decide +kernel)) (hts (.initialized RX2) (by decide +kernel)) hE.1 hP hD hS hA rfl (fun j hj => by rcases (show j = 0 ∨ j = 1 by omega) with rfl | rfl <;> rfl) (Nat.le_of_ble_eq_true rfl) (Nat.le_of_ble_eq_true rfl) dX8_init_5 (fun a1 H hP hD hS => ?_)
  have hP : va_P D vwCl [(h0, .inr (6, [.null, .null, .null, .null, .null, .null])), (a1, .inr (2, [.null, .int 0]))] H := hP
  have hD : va_D A [(h0, .inr (6, [.null, .null, .null, .null, .null, .null])), (a1, .inr (2, [.null, .int 0]))] := hD
  refine lv_dup hx hb dX8_init_8 rfl ?_
  have hPc := hP.sub (ws' := [(a1, .inr (2, [.null, .int 0]))]) [1] rfl
  have hDc := hD.sub (ws' := [(a1, .inr (2, [.null, .int 0]))]) [1] (by decide) rfl
  have hFc := va_free (wc := [(a1, .inr (2, [.null, .int 0]))]) hD hS hA [1] rfl
  refine va_callv (va_runIN (host := RX8) (As := []) (rest := [.ref a1, .ref h0]) ⟨hx, hb, hml, hown, hts⟩ (kX2_init l D cI cJ cD a1 H.size) ⟨va_cnB (host := RX8) 0 hts gX8_init_X2_init_n9 rfl rfl rfl (hE.2 (.methodLinkNest RX8 9 yX2_init RX8) (by decide +kernel)) (hts (.initialized RX2) (by decide +kernel)) (by decide +kernel) ⟨(Nat.le_of_ble_eq_true rfl), (Nat.le_of_ble_eq_true rfl)⟩, rfl, hts (.instanceMethod yX2_init) (by decide +kernel)⟩ ⟨gPn_blind, fun U hU hW => ⟨rfl, by rw [hU], by rw [hU]; exact hPc, gEv.warm hW hE, hDc.weaken (fun _ _ _ _ => trivial)⟩⟩ rfl rfl hl.1 rfl (lv_room (Nat.le_of_ble_eq_true rfl)) dX8_init_9 ⟨(Nat.le_of_ble_eq_true rfl), (Nat.le_of_ble_eq_true rfl)⟩) hS (fun q _ h => hFc q h) hFc (fun u t H1 locs ht hvm hw hB hz1 hk1 hS => ?_)
  obtain ⟨a2, hP1, hD1⟩ := hB
  rw [ht] at hP1
  obtain ⟨hP, hD⟩ := va_join (wr := [(h0, .inr (6, [.null, .null, .null, .null, .null, .null]))]) (w1 := [(a1, .inr (2, [.ref a2, .int 0])), (a2, .inl (cI, 64, .inl (fun _ => 0)))]) hP hD [1] [0] rfl rfl (by decide) (by decide) hk1 hFc hP1 hD1
  generalize H1 = H at hP hS ⊢
  have hP : va_P D vwCl [(h0, .inr (6, [.null, .null, .null, .null, .null, .null])), (a1, .inr (2, [.ref a2, .int 0])), (a2, .inl (cI, 64, .inl (fun _ => 0)))] H := hP
  have hD : va_D A [(h0, .inr (6, [.null, .null, .null, .null, .null, .null])), (a1, .inr (2, [.ref a2, .int 0])), (a2, .inl (cI, 64, .inl (fun _ => 0)))] := hD
  refine va_putF (D := D) (ci := 6) (v := .ref a1) (ty := .object "LyndonText$Letters") (C := RX8) (T := TX8) (N := 6) hx hb hts huX8 tyX8 tyX8_ok nmX8 hown hE.1 hP hD hS 0 rfl rfl 0 (by decide) (hts (.fieldLink RX8 10 "LyndonText" "text" "LLyndonText$Letters;") (by decide +kernel)) (fun _ h9 => h9) rfl hin rfl (by decide +kernel) rfl rfl (Nat.le_of_ble_eq_true rfl) dX8_init_12 (fun H locs hP hD hS => ?_)
  have hP : va_P D vwCl [(h0, .inr (6, [.ref a1, .null, .null, .null, .null, .null])), (a1, .inr (2, [.ref a2, .int 0])), (a2, .inl (cI, 64, .inl (fun _ => 0)))] H := hP
  have hD : va_D A [(h0, .inr (6, [.ref a1, .null, .null, .null, .null, .null])), (a1, .inr (2, [.ref a2, .int 0])), (a2, .inl (cI, 64, .inl (fun _ => 0)))] := hD
  refine lv_aload_n hx hb dX8_init_15 rfl (lv_at hl 0 rfl) ?_
  refine va_new (ci := 1) (fs := [.null, .int 0]) (C := RX1) (T := TX1) (N := 2) hx hb hts huX1 tyX1 tyX1_ok hown (hts (.classLink RX8 16 RX1) (by decide +kernel)) (hts (.instantiable RX1 2) (by decide +kernel)) (hts (.initialized RX1) (by decide +kernel)) hE.1 hP hD hS hA rfl (fun j hj => by rcases (show j = 0 ∨ j = 1 by omega) with rfl | rfl <;> rfl) (Nat.le_of_ble_eq_true rfl) (Nat.le_of_ble_eq_true rfl) dX8_init_16 (fun a3 H hP hD hS => ?_)
  have hP : va_P D vwCl [(h0, .inr (6, [.ref a1, .null, .null, .null, .null, .null])), (a1, .inr (2, [.ref a2, .int 0])), (a2, .inl (cI, 64, .inl (fun _ => 0))), (a3, .inr (1, [.null, .int 0]))] H := hP
  have hD : va_D A [(h0, .inr (6, [.ref a1, .null, .null, .null, .null, .null])), (a1, .inr (2, [.ref a2, .int 0])), (a2, .inl (cI, 64, .inl (fun _ => 0))), (a3, .inr (1, [.null, .int 0]))] := hD
  refine lv_dup hx hb dX8_init_19 rfl ?_
  have hPc := hP.sub (ws' := [(a3, .inr (1, [.null, .int 0]))]) [3] rfl
  have hDc := hD.sub (ws' := [(a3, .inr (1, [.null, .int 0]))]) [3] (by decide) rfl
  have hFc := va_free (wc := [(a3, .inr (1, [.null, .int 0]))]) hD hS hA [3] rfl
  refine va_callv (va_runIN (host := RX8) (As := []) (rest := [.ref a3, .ref h0]) ⟨hx, hb, hml, hown, hts⟩ (kX1_init l D cI cJ cD a3 H.size) ⟨va_cnB (host := RX8) 0 hts gX8_init_X1_init_n18 rfl rfl rfl (hE.2 (.methodLinkNest RX8 18 yX1_init RX8) (by decide +kernel)) (hts (.initialized RX1) (by decide +kernel)) (by decide +kernel) ⟨(Nat.le_of_ble_eq_true rfl), (Nat.le_of_ble_eq_true rfl)⟩, rfl, hts (.instanceMethod yX1_init) (by decide +kernel)⟩ ⟨gPn_blind, fun U hU hW => ⟨rfl, by rw [hU], by rw [hU]; exact hPc, gEv.warm hW hE, hDc.weaken (fun _ _ _ _ => trivial)⟩⟩ rfl rfl hl.1 rfl (lv_room (Nat.le_of_ble_eq_true rfl)) dX8_init_20 ⟨(Nat.le_of_ble_eq_true rfl), (Nat.le_of_ble_eq_true rfl)⟩) hS (fun q _ h => hFc q h) hFc (fun u t H1 locs ht hvm hw hB hz1 hk1 hS => ?_)
  obtain ⟨a4, hP1, hD1⟩ := hB
  rw [ht] at hP1
  obtain ⟨hP, hD⟩ := va_join (wr := [(h0, .inr (6, [.ref a1, .null, .null, .null, .null, .null])), (a1, .inr (2, [.ref a2, .int 0])), (a2, .inl (cI, 64, .inl (fun _ => 0)))]) (w1 := [(a3, .inr (1, [.ref a4, .int 0])), (a4, .inl (cI, 65, .inl (fun _ => 0)))]) hP hD [3] [0, 1, 2] rfl rfl (by decide) (by decide) hk1 hFc hP1 hD1
  generalize H1 = H at hP hS ⊢
  have hP : va_P D vwCl [(h0, .inr (6, [.ref a1, .null, .null, .null, .null, .null])), (a1, .inr (2, [.ref a2, .int 0])), (a2, .inl (cI, 64, .inl (fun _ => 0))), (a3, .inr (1, [.ref a4, .int 0])), (a4, .inl (cI, 65, .inl (fun _ => 0)))] H := hP
  have hD : va_D A [(h0, .inr (6, [.ref a1, .null, .null, .null, .null, .null])), (a1, .inr (2, [.ref a2, .int 0])), (a2, .inl (cI, 64, .inl (fun _ => 0))), (a3, .inr (1, [.ref a4, .int 0])), (a4, .inl (cI, 65, .inl (fun _ => 0)))] := hD
  refine va_putF (D := D) (ci := 6) (v := .ref a3) (ty := .object "LyndonText$Factors") (C := RX8) (T := TX8) (N := 6) hx hb hts huX8 tyX8 tyX8_ok nmX8 hown hE.1 hP hD hS 0 rfl rfl 1 (by decide) (hts (.fieldLink RX8 19 "LyndonText" "factorRow" "LLyndonText$Factors;") (by decide +kernel)) (fun _ h9 => h9) rfl hin rfl (by decide +kernel) rfl rfl (Nat.le_of_ble_eq_true rfl) dX8_init_23 (fun H locs hP hD hS => ?_)
  have hP : va_P D vwCl [(h0, .inr (6, [.ref a1, .ref a3, .null, .null, .null, .null])), (a1, .inr (2, [.ref a2, .int 0])), (a2, .inl (cI, 64, .inl (fun _ => 0))), (a3, .inr (1, [.ref a4, .int 0])), (a4, .inl (cI, 65, .inl (fun _ => 0)))] H := hP
  have hD : va_D A [(h0, .inr (6, [.ref a1, .ref a3, .null, .null, .null, .null])), (a1, .inr (2, [.ref a2, .int 0])), (a2, .inl (cI, 64, .inl (fun _ => 0))), (a3, .inr (1, [.ref a4, .int 0])), (a4, .inl (cI, 65, .inl (fun _ => 0)))] := hD
  refine lv_aload_n hx hb dX8_init_26 rfl (lv_at hl 0 rfl) ?_
  refine va_new (ci := 0) (fs := [.null]) (C := RX0) (T := TX0) (N := 1) hx hb hts huX0 tyX0 tyX0_ok hown (hts (.classLink RX8 23 RX0) (by decide +kernel)) (hts (.instantiable RX0 1) (by decide +kernel)) (hts (.initialized RX0) (by decide +kernel)) hE.1 hP hD hS hA rfl (fun j hj => by rcases (show j = 0 by omega) with rfl <;> rfl) (Nat.le_of_ble_eq_true rfl) (Nat.le_of_ble_eq_true rfl) dX8_init_27 (fun a5 H hP hD hS => ?_)
  have hP : va_P D vwCl [(h0, .inr (6, [.ref a1, .ref a3, .null, .null, .null, .null])), (a1, .inr (2, [.ref a2, .int 0])), (a2, .inl (cI, 64, .inl (fun _ => 0))), (a3, .inr (1, [.ref a4, .int 0])), (a4, .inl (cI, 65, .inl (fun _ => 0))), (a5, .inr (0, [.null]))] H := hP
  have hD : va_D A [(h0, .inr (6, [.ref a1, .ref a3, .null, .null, .null, .null])), (a1, .inr (2, [.ref a2, .int 0])), (a2, .inl (cI, 64, .inl (fun _ => 0))), (a3, .inr (1, [.ref a4, .int 0])), (a4, .inl (cI, 65, .inl (fun _ => 0))), (a5, .inr (0, [.null]))] := hD
  refine lv_dup hx hb dX8_init_30 rfl ?_
  have hPc := hP.sub (ws' := [(a5, .inr (0, [.null]))]) [5] rfl
  have hDc := hD.sub (ws' := [(a5, .inr (0, [.null]))]) [5] (by decide) rfl
  have hFc := va_free (wc := [(a5, .inr (0, [.null]))]) hD hS hA [5] rfl
  refine va_callv (va_runIN (host := RX8) (As := []) (rest := [.ref a5, .ref h0]) ⟨hx, hb, hml, hown, hts⟩ (kX0_init l D cI cJ cD a5 H.size) ⟨va_cnB (host := RX8) 0 hts gX8_init_X0_init_n25 rfl rfl rfl (hE.2 (.methodLinkNest RX8 25 yX0_init RX8) (by decide +kernel)) (hts (.initialized RX0) (by decide +kernel)) (by decide +kernel) ⟨(Nat.le_of_ble_eq_true rfl), (Nat.le_of_ble_eq_true rfl)⟩, rfl, hts (.instanceMethod yX0_init) (by decide +kernel)⟩ ⟨gPn_blind, fun U hU hW => ⟨rfl, by rw [hU], by rw [hU]; exact hPc, gEv.warm hW hE, hDc.weaken (fun _ _ _ _ => trivial)⟩⟩ rfl rfl hl.1 rfl (lv_room (Nat.le_of_ble_eq_true rfl)) dX8_init_31 ⟨(Nat.le_of_ble_eq_true rfl), (Nat.le_of_ble_eq_true rfl)⟩) hS (fun q _ h => hFc q h) hFc (fun u t H1 locs ht hvm hw hB hz1 hk1 hS => ?_)
  obtain ⟨a6, hP1, hD1⟩ := hB
  rw [ht] at hP1
  obtain ⟨hP, hD⟩ := va_join (wr := [(h0, .inr (6, [.ref a1, .ref a3, .null, .null, .null, .null])), (a1, .inr (2, [.ref a2, .int 0])), (a2, .inl (cI, 64, .inl (fun _ => 0))), (a3, .inr (1, [.ref a4, .int 0])), (a4, .inl (cI, 65, .inl (fun _ => 0)))]) (w1 := [(a5, .inr (0, [.ref a6])), (a6, .inl (cI, 65, .inl (fun _ => 0)))]) hP hD [5] [0, 1, 2, 3, 4] rfl rfl (by decide) (by decide) hk1 hFc hP1 hD1
  generalize H1 = H at hP hS ⊢
  have hP : va_P D vwCl [(h0, .inr (6, [.ref a1, .ref a3, .null, .null, .null, .null])), (a1, .inr (2, [.ref a2, .int 0])), (a2, .inl (cI, 64, .inl (fun _ => 0))), (a3, .inr (1, [.ref a4, .int 0])), (a4, .inl (cI, 65, .inl (fun _ => 0))), (a5, .inr (0, [.ref a6])), (a6, .inl (cI, 65, .inl (fun _ => 0)))] H := hP
  have hD : va_D A [(h0, .inr (6, [.ref a1, .ref a3, .null, .null, .null, .null])), (a1, .inr (2, [.ref a2, .int 0])), (a2, .inl (cI, 64, .inl (fun _ => 0))), (a3, .inr (1, [.ref a4, .int 0])), (a4, .inl (cI, 65, .inl (fun _ => 0))), (a5, .inr (0, [.ref a6])), (a6, .inl (cI, 65, .inl (fun _ => 0)))] := hD
  refine va_putF (D := D) (ci := 6) (v := .ref a5) (ty := .object "LyndonText$Borders") (C := RX8) (T := TX8) (N := 6) hx hb hts huX8 tyX8 tyX8_ok nmX8 hown hE.1 hP hD hS 0 rfl rfl 2 (by decide) (hts (.fieldLink RX8 26 "LyndonText" "borderRow" "LLyndonText$Borders;") (by decide +kernel)) (fun _ h9 => h9) rfl hin rfl (by decide +kernel) rfl rfl (Nat.le_of_ble_eq_true rfl) dX8_init_34 (fun H locs hP hD hS => ?_)
  have hP : va_P D vwCl [(h0, .inr (6, [.ref a1, .ref a3, .ref a5, .null, .null, .null])), (a1, .inr (2, [.ref a2, .int 0])), (a2, .inl (cI, 64, .inl (fun _ => 0))), (a3, .inr (1, [.ref a4, .int 0])), (a4, .inl (cI, 65, .inl (fun _ => 0))), (a5, .inr (0, [.ref a6])), (a6, .inl (cI, 65, .inl (fun _ => 0)))] H := hP
  have hD : va_D A [(h0, .inr (6, [.ref a1, .ref a3, .ref a5, .null, .null, .null])), (a1, .inr (2, [.ref a2, .int 0])), (a2, .inl (cI, 64, .inl (fun _ => 0))), (a3, .inr (1, [.ref a4, .int 0])), (a4, .inl (cI, 65, .inl (fun _ => 0))), (a5, .inr (0, [.ref a6])), (a6, .inl (cI, 65, .inl (fun _ => 0)))] := hD
  refine lv_aload_n hx hb dX8_init_37 rfl (lv_at hl 0 rfl) ?_
  refine va_new (ci := 4) (fs := [.null, .null, .null, .int 0]) (C := RX6) (T := TX6) (N := 4) hx hb hts huX6 tyX6 tyX6_ok hown (hts (.classLink RX8 30 RX6) (by decide +kernel)) (hts (.instantiable RX6 4) (by decide +kernel)) (hts (.initialized RX6) (by decide +kernel)) hE.1 hP hD hS hA rfl (fun j hj => by rcases (show j = 0 ∨ j = 1 ∨ j = 2 ∨ j = 3 by omega) with rfl | rfl | rfl | rfl <;> rfl) (Nat.le_of_ble_eq_true rfl) (Nat.le_of_ble_eq_true rfl) dX8_init_38 (fun a7 H hP hD hS => ?_)
  have hP : va_P D vwCl [(h0, .inr (6, [.ref a1, .ref a3, .ref a5, .null, .null, .null])), (a1, .inr (2, [.ref a2, .int 0])), (a2, .inl (cI, 64, .inl (fun _ => 0))), (a3, .inr (1, [.ref a4, .int 0])), (a4, .inl (cI, 65, .inl (fun _ => 0))), (a5, .inr (0, [.ref a6])), (a6, .inl (cI, 65, .inl (fun _ => 0))), (a7, .inr (4, [.null, .null, .null, .int 0]))] H := hP
  have hD : va_D A [(h0, .inr (6, [.ref a1, .ref a3, .ref a5, .null, .null, .null])), (a1, .inr (2, [.ref a2, .int 0])), (a2, .inl (cI, 64, .inl (fun _ => 0))), (a3, .inr (1, [.ref a4, .int 0])), (a4, .inl (cI, 65, .inl (fun _ => 0))), (a5, .inr (0, [.ref a6])), (a6, .inl (cI, 65, .inl (fun _ => 0))), (a7, .inr (4, [.null, .null, .null, .int 0]))] := hD
  refine lv_dup hx hb dX8_init_41 rfl ?_
  have hPc := hP.sub (ws' := [(a7, .inr (4, [.null, .null, .null, .int 0]))]) [7] rfl
  have hDc := hD.sub (ws' := [(a7, .inr (4, [.null, .null, .null, .int 0]))]) [7] (by decide) rfl
  have hFc := va_free (wc := [(a7, .inr (4, [.null, .null, .null, .int 0]))]) hD hS hA [7] rfl
  refine va_callv (va_runIN (host := RX8) (As := []) (rest := [.ref a7, .ref h0]) ⟨hx, hb, hml, hown, hts⟩ (kX6_init l D cI cJ cD a7 H.size) ⟨va_cnB (host := RX8) 0 hts gX8_init_X6_init_n32 rfl rfl rfl (hE.2 (.methodLinkNest RX8 32 yX6_init RX8) (by decide +kernel)) (hts (.initialized RX6) (by decide +kernel)) (by decide +kernel) ⟨(Nat.le_of_ble_eq_true rfl), (Nat.le_of_ble_eq_true rfl)⟩, rfl, hts (.instanceMethod yX6_init) (by decide +kernel)⟩ ⟨gPn_blind, fun U hU hW => ⟨rfl, by rw [hU], by rw [hU]; exact hPc, gEv.warm hW hE, hDc.weaken (fun _ _ _ _ => trivial)⟩⟩ rfl rfl hl.1 rfl (lv_room (Nat.le_of_ble_eq_true rfl)) dX8_init_42 ⟨(Nat.le_of_ble_eq_true rfl), (Nat.le_of_ble_eq_true rfl)⟩) hS (fun q _ h => hFc q h) hFc (fun u t H1 locs ht hvm hw hB hz1 hk1 hS => ?_)
  obtain ⟨a8, a9, a10, hP1, hD1⟩ := hB
  rw [ht] at hP1
  obtain ⟨hP, hD⟩ := va_join (wr := [(h0, .inr (6, [.ref a1, .ref a3, .ref a5, .null, .null, .null])), (a1, .inr (2, [.ref a2, .int 0])), (a2, .inl (cI, 64, .inl (fun _ => 0))), (a3, .inr (1, [.ref a4, .int 0])), (a4, .inl (cI, 65, .inl (fun _ => 0))), (a5, .inr (0, [.ref a6])), (a6, .inl (cI, 65, .inl (fun _ => 0)))]) (w1 := [(a7, .inr (4, [.ref a8, .ref a9, .ref a10, .int 0])), (a8, .inl (cI, 64, .inl (fun _ => 0))), (a9, .inl (cI, 64, .inl (fun _ => 0))), (a10, .inl (cI, 64, .inl (fun _ => 0)))]) hP hD [7] [0, 1, 2, 3, 4, 5, 6] rfl rfl (by decide) (by decide) hk1 hFc hP1 hD1
  generalize H1 = H at hP hS ⊢
  have hP : va_P D vwCl [(h0, .inr (6, [.ref a1, .ref a3, .ref a5, .null, .null, .null])), (a1, .inr (2, [.ref a2, .int 0])), (a2, .inl (cI, 64, .inl (fun _ => 0))), (a3, .inr (1, [.ref a4, .int 0])), (a4, .inl (cI, 65, .inl (fun _ => 0))), (a5, .inr (0, [.ref a6])), (a6, .inl (cI, 65, .inl (fun _ => 0))), (a7, .inr (4, [.ref a8, .ref a9, .ref a10, .int 0])), (a8, .inl (cI, 64, .inl (fun _ => 0))), (a9, .inl (cI, 64, .inl (fun _ => 0))), (a10, .inl (cI, 64, .inl (fun _ => 0)))] H := hP
  have hD : va_D A [(h0, .inr (6, [.ref a1, .ref a3, .ref a5, .null, .null, .null])), (a1, .inr (2, [.ref a2, .int 0])), (a2, .inl (cI, 64, .inl (fun _ => 0))), (a3, .inr (1, [.ref a4, .int 0])), (a4, .inl (cI, 65, .inl (fun _ => 0))), (a5, .inr (0, [.ref a6])), (a6, .inl (cI, 65, .inl (fun _ => 0))), (a7, .inr (4, [.ref a8, .ref a9, .ref a10, .int 0])), (a8, .inl (cI, 64, .inl (fun _ => 0))), (a9, .inl (cI, 64, .inl (fun _ => 0))), (a10, .inl (cI, 64, .inl (fun _ => 0)))] := hD
  refine va_putF (D := D) (ci := 6) (v := .ref a7) (ty := .object "LyndonText$Runs") (C := RX8) (T := TX8) (N := 6) hx hb hts huX8 tyX8 tyX8_ok nmX8 hown hE.1 hP hD hS 0 rfl rfl 3 (by decide) (hts (.fieldLink RX8 33 "LyndonText" "runRow" "LLyndonText$Runs;") (by decide +kernel)) (fun _ h9 => h9) rfl hin rfl (by decide +kernel) rfl rfl (Nat.le_of_ble_eq_true rfl) dX8_init_45 (fun H locs hP hD hS => ?_)
  have hP : va_P D vwCl [(h0, .inr (6, [.ref a1, .ref a3, .ref a5, .ref a7, .null, .null])), (a1, .inr (2, [.ref a2, .int 0])), (a2, .inl (cI, 64, .inl (fun _ => 0))), (a3, .inr (1, [.ref a4, .int 0])), (a4, .inl (cI, 65, .inl (fun _ => 0))), (a5, .inr (0, [.ref a6])), (a6, .inl (cI, 65, .inl (fun _ => 0))), (a7, .inr (4, [.ref a8, .ref a9, .ref a10, .int 0])), (a8, .inl (cI, 64, .inl (fun _ => 0))), (a9, .inl (cI, 64, .inl (fun _ => 0))), (a10, .inl (cI, 64, .inl (fun _ => 0)))] H := hP
  have hD : va_D A [(h0, .inr (6, [.ref a1, .ref a3, .ref a5, .ref a7, .null, .null])), (a1, .inr (2, [.ref a2, .int 0])), (a2, .inl (cI, 64, .inl (fun _ => 0))), (a3, .inr (1, [.ref a4, .int 0])), (a4, .inl (cI, 65, .inl (fun _ => 0))), (a5, .inr (0, [.ref a6])), (a6, .inl (cI, 65, .inl (fun _ => 0))), (a7, .inr (4, [.ref a8, .ref a9, .ref a10, .int 0])), (a8, .inl (cI, 64, .inl (fun _ => 0))), (a9, .inl (cI, 64, .inl (fun _ => 0))), (a10, .inl (cI, 64, .inl (fun _ => 0)))] := hD
  refine lv_aload_n hx hb dX8_init_48 rfl (lv_at hl 0 rfl) ?_
  refine va_new (ci := 5) (fs := [.null]) (C := RX7) (T := TX7) (N := 1) hx hb hts huX7 tyX7 tyX7_ok hown (hts (.classLink RX8 37 RX7) (by decide +kernel)) (hts (.instantiable RX7 1) (by decide +kernel)) (hts (.initialized RX7) (by decide +kernel)) hE.1 hP hD hS hA rfl (fun j hj => by rcases (show j = 0 by omega) with rfl <;> rfl) (Nat.le_of_ble_eq_true rfl) (Nat.le_of_ble_eq_true rfl) dX8_init_49 (fun a11 H hP hD hS => ?_)
  have hP : va_P D vwCl [(h0, .inr (6, [.ref a1, .ref a3, .ref a5, .ref a7, .null, .null])), (a1, .inr (2, [.ref a2, .int 0])), (a2, .inl (cI, 64, .inl (fun _ => 0))), (a3, .inr (1, [.ref a4, .int 0])), (a4, .inl (cI, 65, .inl (fun _ => 0))), (a5, .inr (0, [.ref a6])), (a6, .inl (cI, 65, .inl (fun _ => 0))), (a7, .inr (4, [.ref a8, .ref a9, .ref a10, .int 0])), (a8, .inl (cI, 64, .inl (fun _ => 0))), (a9, .inl (cI, 64, .inl (fun _ => 0))), (a10, .inl (cI, 64, .inl (fun _ => 0))), (a11, .inr (5, [.null]))] H := hP
  have hD : va_D A [(h0, .inr (6, [.ref a1, .ref a3, .ref a5, .ref a7, .null, .null])), (a1, .inr (2, [.ref a2, .int 0])), (a2, .inl (cI, 64, .inl (fun _ => 0))), (a3, .inr (1, [.ref a4, .int 0])), (a4, .inl (cI, 65, .inl (fun _ => 0))), (a5, .inr (0, [.ref a6])), (a6, .inl (cI, 65, .inl (fun _ => 0))), (a7, .inr (4, [.ref a8, .ref a9, .ref a10, .int 0])), (a8, .inl (cI, 64, .inl (fun _ => 0))), (a9, .inl (cI, 64, .inl (fun _ => 0))), (a10, .inl (cI, 64, .inl (fun _ => 0))), (a11, .inr (5, [.null]))] := hD
  refine lv_dup hx hb dX8_init_52 rfl ?_
  have hPc := hP.sub (ws' := [(a11, .inr (5, [.null]))]) [11] rfl
  have hDc := hD.sub (ws' := [(a11, .inr (5, [.null]))]) [11] (by decide) rfl
  have hFc := va_free (wc := [(a11, .inr (5, [.null]))]) hD hS hA [11] rfl
  refine va_callv (va_runIN (host := RX8) (As := []) (rest := [.ref a11, .ref h0]) ⟨hx, hb, hml, hown, hts⟩ (kX7_init l D cI cJ cD a11 H.size) ⟨va_cnB (host := RX8) 0 hts gX8_init_X7_init_n39 rfl rfl rfl (hE.2 (.methodLinkNest RX8 39 yX7_init RX8) (by decide +kernel)) (hts (.initialized RX7) (by decide +kernel)) (by decide +kernel) ⟨(Nat.le_of_ble_eq_true rfl), (Nat.le_of_ble_eq_true rfl)⟩, rfl, hts (.instanceMethod yX7_init) (by decide +kernel)⟩ ⟨gPn_blind, fun U hU hW => ⟨rfl, by rw [hU], by rw [hU]; exact hPc, gEv.warm hW hE, hDc.weaken (fun _ _ _ _ => trivial)⟩⟩ rfl rfl hl.1 rfl (lv_room (Nat.le_of_ble_eq_true rfl)) dX8_init_53 ⟨(Nat.le_of_ble_eq_true rfl), (Nat.le_of_ble_eq_true rfl)⟩) hS (fun q _ h => hFc q h) hFc (fun u t H1 locs ht hvm hw hB hz1 hk1 hS => ?_)
  obtain ⟨a12, hP1, hD1⟩ := hB
  rw [ht] at hP1
  obtain ⟨hP, hD⟩ := va_join (wr := [(h0, .inr (6, [.ref a1, .ref a3, .ref a5, .ref a7, .null, .null])), (a1, .inr (2, [.ref a2, .int 0])), (a2, .inl (cI, 64, .inl (fun _ => 0))), (a3, .inr (1, [.ref a4, .int 0])), (a4, .inl (cI, 65, .inl (fun _ => 0))), (a5, .inr (0, [.ref a6])), (a6, .inl (cI, 65, .inl (fun _ => 0))), (a7, .inr (4, [.ref a8, .ref a9, .ref a10, .int 0])), (a8, .inl (cI, 64, .inl (fun _ => 0))), (a9, .inl (cI, 64, .inl (fun _ => 0))), (a10, .inl (cI, 64, .inl (fun _ => 0)))]) (w1 := [(a11, .inr (5, [.ref a12])), (a12, .inl (cI, 65, .inl (fun _ => 0)))]) hP hD [11] [0, 1, 2, 3, 4, 5, 6, 7, 8, 9, 10] rfl rfl (by decide) (by decide) hk1 hFc hP1 hD1
  generalize H1 = H at hP hS ⊢
  have hP : va_P D vwCl [(h0, .inr (6, [.ref a1, .ref a3, .ref a5, .ref a7, .null, .null])), (a1, .inr (2, [.ref a2, .int 0])), (a2, .inl (cI, 64, .inl (fun _ => 0))), (a3, .inr (1, [.ref a4, .int 0])), (a4, .inl (cI, 65, .inl (fun _ => 0))), (a5, .inr (0, [.ref a6])), (a6, .inl (cI, 65, .inl (fun _ => 0))), (a7, .inr (4, [.ref a8, .ref a9, .ref a10, .int 0])), (a8, .inl (cI, 64, .inl (fun _ => 0))), (a9, .inl (cI, 64, .inl (fun _ => 0))), (a10, .inl (cI, 64, .inl (fun _ => 0))), (a11, .inr (5, [.ref a12])), (a12, .inl (cI, 65, .inl (fun _ => 0)))] H := hP
  have hD : va_D A [(h0, .inr (6, [.ref a1, .ref a3, .ref a5, .ref a7, .null, .null])), (a1, .inr (2, [.ref a2, .int 0])), (a2, .inl (cI, 64, .inl (fun _ => 0))), (a3, .inr (1, [.ref a4, .int 0])), (a4, .inl (cI, 65, .inl (fun _ => 0))), (a5, .inr (0, [.ref a6])), (a6, .inl (cI, 65, .inl (fun _ => 0))), (a7, .inr (4, [.ref a8, .ref a9, .ref a10, .int 0])), (a8, .inl (cI, 64, .inl (fun _ => 0))), (a9, .inl (cI, 64, .inl (fun _ => 0))), (a10, .inl (cI, 64, .inl (fun _ => 0))), (a11, .inr (5, [.ref a12])), (a12, .inl (cI, 65, .inl (fun _ => 0)))] := hD
  refine va_putF (D := D) (ci := 6) (v := .ref a11) (ty := .object "LyndonText$Suffixes") (C := RX8) (T := TX8) (N := 6) hx hb hts huX8 tyX8 tyX8_ok nmX8 hown hE.1 hP hD hS 0 rfl rfl 4 (by decide) (hts (.fieldLink RX8 40 "LyndonText" "suffixRow" "LLyndonText$Suffixes;") (by decide +kernel)) (fun _ h9 => h9) rfl hin rfl (by decide +kernel) rfl rfl (Nat.le_of_ble_eq_true rfl) dX8_init_56 (fun H locs hP hD hS => ?_)
  have hP : va_P D vwCl [(h0, .inr (6, [.ref a1, .ref a3, .ref a5, .ref a7, .ref a11, .null])), (a1, .inr (2, [.ref a2, .int 0])), (a2, .inl (cI, 64, .inl (fun _ => 0))), (a3, .inr (1, [.ref a4, .int 0])), (a4, .inl (cI, 65, .inl (fun _ => 0))), (a5, .inr (0, [.ref a6])), (a6, .inl (cI, 65, .inl (fun _ => 0))), (a7, .inr (4, [.ref a8, .ref a9, .ref a10, .int 0])), (a8, .inl (cI, 64, .inl (fun _ => 0))), (a9, .inl (cI, 64, .inl (fun _ => 0))), (a10, .inl (cI, 64, .inl (fun _ => 0))), (a11, .inr (5, [.ref a12])), (a12, .inl (cI, 65, .inl (fun _ => 0)))] H := hP
  have hD : va_D A [(h0, .inr (6, [.ref a1, .ref a3, .ref a5, .ref a7, .ref a11, .null])), (a1, .inr (2, [.ref a2, .int 0])), (a2, .inl (cI, 64, .inl (fun _ => 0))), (a3, .inr (1, [.ref a4, .int 0])), (a4, .inl (cI, 65, .inl (fun _ => 0))), (a5, .inr (0, [.ref a6])), (a6, .inl (cI, 65, .inl (fun _ => 0))), (a7, .inr (4, [.ref a8, .ref a9, .ref a10, .int 0])), (a8, .inl (cI, 64, .inl (fun _ => 0))), (a9, .inl (cI, 64, .inl (fun _ => 0))), (a10, .inl (cI, 64, .inl (fun _ => 0))), (a11, .inr (5, [.ref a12])), (a12, .inl (cI, 65, .inl (fun _ => 0)))] := hD
  refine lv_aload_n hx hb dX8_init_59 rfl (lv_at hl 0 rfl) ?_
  refine va_new (ci := 3) (fs := [.int 0, .int 0, .int 0, .int 0]) (C := RX3) (T := TX3) (N := 4) hx hb hts huX3 tyX3 tyX3_ok hown (hts (.classLink RX8 44 RX3) (by decide +kernel)) (hts (.instantiable RX3 4) (by decide +kernel)) (hts (.initialized RX3) (by decide +kernel)) hE.1 hP hD hS hA rfl (fun j hj => by rcases (show j = 0 ∨ j = 1 ∨ j = 2 ∨ j = 3 by omega) with rfl | rfl | rfl | rfl <;> rfl) (Nat.le_of_ble_eq_true rfl) (Nat.le_of_ble_eq_true rfl) dX8_init_60 (fun a13 H hP hD hS => ?_)
  have hP : va_P D vwCl [(h0, .inr (6, [.ref a1, .ref a3, .ref a5, .ref a7, .ref a11, .null])), (a1, .inr (2, [.ref a2, .int 0])), (a2, .inl (cI, 64, .inl (fun _ => 0))), (a3, .inr (1, [.ref a4, .int 0])), (a4, .inl (cI, 65, .inl (fun _ => 0))), (a5, .inr (0, [.ref a6])), (a6, .inl (cI, 65, .inl (fun _ => 0))), (a7, .inr (4, [.ref a8, .ref a9, .ref a10, .int 0])), (a8, .inl (cI, 64, .inl (fun _ => 0))), (a9, .inl (cI, 64, .inl (fun _ => 0))), (a10, .inl (cI, 64, .inl (fun _ => 0))), (a11, .inr (5, [.ref a12])), (a12, .inl (cI, 65, .inl (fun _ => 0))), (a13, .inr (3, [.int 0, .int 0, .int 0, .int 0]))] H := hP
  have hD : va_D A [(h0, .inr (6, [.ref a1, .ref a3, .ref a5, .ref a7, .ref a11, .null])), (a1, .inr (2, [.ref a2, .int 0])), (a2, .inl (cI, 64, .inl (fun _ => 0))), (a3, .inr (1, [.ref a4, .int 0])), (a4, .inl (cI, 65, .inl (fun _ => 0))), (a5, .inr (0, [.ref a6])), (a6, .inl (cI, 65, .inl (fun _ => 0))), (a7, .inr (4, [.ref a8, .ref a9, .ref a10, .int 0])), (a8, .inl (cI, 64, .inl (fun _ => 0))), (a9, .inl (cI, 64, .inl (fun _ => 0))), (a10, .inl (cI, 64, .inl (fun _ => 0))), (a11, .inr (5, [.ref a12])), (a12, .inl (cI, 65, .inl (fun _ => 0))), (a13, .inr (3, [.int 0, .int 0, .int 0, .int 0]))] := hD
  refine lv_dup hx hb dX8_init_63 rfl ?_
  have hPc := hP.sub (ws' := [(a13, .inr (3, [.int 0, .int 0, .int 0, .int 0]))]) [13] rfl
  have hDc := hD.sub (ws' := [(a13, .inr (3, [.int 0, .int 0, .int 0, .int 0]))]) [13] (by decide) rfl
  have hFc := va_free (wc := [(a13, .inr (3, [.int 0, .int 0, .int 0, .int 0]))]) hD hS hA [13] rfl
  refine va_callv (va_runIN (host := RX8) (As := []) (rest := [.ref a13, .ref h0]) ⟨hx, hb, hml, hown, hts⟩ (kX3_init l D cI cJ cD a13 H.size) ⟨va_cnB (host := RX8) 0 hts gX8_init_X3_init_n46 rfl rfl rfl (hE.2 (.methodLinkNest RX8 46 yX3_init RX8) (by decide +kernel)) (hts (.initialized RX3) (by decide +kernel)) (by decide +kernel) ⟨(Nat.le_of_ble_eq_true rfl), (Nat.le_of_ble_eq_true rfl)⟩, rfl, hts (.instanceMethod yX3_init) (by decide +kernel)⟩ ⟨gPn_blind, fun U hU hW => ⟨rfl, by rw [hU], by rw [hU]; exact hPc, gEv.warm hW hE, hDc.weaken (fun _ _ _ _ => trivial)⟩⟩ rfl rfl hl.1 rfl (lv_room (Nat.le_of_ble_eq_true rfl)) dX8_init_64 ⟨(Nat.le_of_ble_eq_true rfl), (Nat.le_of_ble_eq_true rfl)⟩) hS (fun q _ h => hFc q h) hFc (fun u t H1 locs ht hvm hw hB hz1 hk1 hS => ?_)
  obtain ⟨hP1, hD1⟩ := hB
  rw [ht] at hP1
  obtain ⟨hP, hD⟩ := va_join (wr := [(h0, .inr (6, [.ref a1, .ref a3, .ref a5, .ref a7, .ref a11, .null])), (a1, .inr (2, [.ref a2, .int 0])), (a2, .inl (cI, 64, .inl (fun _ => 0))), (a3, .inr (1, [.ref a4, .int 0])), (a4, .inl (cI, 65, .inl (fun _ => 0))), (a5, .inr (0, [.ref a6])), (a6, .inl (cI, 65, .inl (fun _ => 0))), (a7, .inr (4, [.ref a8, .ref a9, .ref a10, .int 0])), (a8, .inl (cI, 64, .inl (fun _ => 0))), (a9, .inl (cI, 64, .inl (fun _ => 0))), (a10, .inl (cI, 64, .inl (fun _ => 0))), (a11, .inr (5, [.ref a12])), (a12, .inl (cI, 65, .inl (fun _ => 0)))]) (w1 := [(a13, .inr (3, [.int 0, .int 1, .int 0, .int 1]))]) hP hD [13] [0, 1, 2, 3, 4, 5, 6, 7, 8, 9, 10, 11, 12] rfl rfl (by decide) (by decide) hk1 hFc hP1 hD1
  generalize H1 = H at hP hS ⊢
  have hP : va_P D vwCl [(h0, .inr (6, [.ref a1, .ref a3, .ref a5, .ref a7, .ref a11, .null])), (a1, .inr (2, [.ref a2, .int 0])), (a2, .inl (cI, 64, .inl (fun _ => 0))), (a3, .inr (1, [.ref a4, .int 0])), (a4, .inl (cI, 65, .inl (fun _ => 0))), (a5, .inr (0, [.ref a6])), (a6, .inl (cI, 65, .inl (fun _ => 0))), (a7, .inr (4, [.ref a8, .ref a9, .ref a10, .int 0])), (a8, .inl (cI, 64, .inl (fun _ => 0))), (a9, .inl (cI, 64, .inl (fun _ => 0))), (a10, .inl (cI, 64, .inl (fun _ => 0))), (a11, .inr (5, [.ref a12])), (a12, .inl (cI, 65, .inl (fun _ => 0))), (a13, .inr (3, [.int 0, .int 1, .int 0, .int 1]))] H := hP
  have hD : va_D A [(h0, .inr (6, [.ref a1, .ref a3, .ref a5, .ref a7, .ref a11, .null])), (a1, .inr (2, [.ref a2, .int 0])), (a2, .inl (cI, 64, .inl (fun _ => 0))), (a3, .inr (1, [.ref a4, .int 0])), (a4, .inl (cI, 65, .inl (fun _ => 0))), (a5, .inr (0, [.ref a6])), (a6, .inl (cI, 65, .inl (fun _ => 0))), (a7, .inr (4, [.ref a8, .ref a9, .ref a10, .int 0])), (a8, .inl (cI, 64, .inl (fun _ => 0))), (a9, .inl (cI, 64, .inl (fun _ => 0))), (a10, .inl (cI, 64, .inl (fun _ => 0))), (a11, .inr (5, [.ref a12])), (a12, .inl (cI, 65, .inl (fun _ => 0))), (a13, .inr (3, [.int 0, .int 1, .int 0, .int 1]))] := hD
  refine va_putF (D := D) (ci := 6) (v := .ref a13) (ty := .object "LyndonText$NecklaceWalk") (C := RX8) (T := TX8) (N := 6) hx hb hts huX8 tyX8 tyX8_ok nmX8 hown hE.1 hP hD hS 0 rfl rfl 5 (by decide) (hts (.fieldLink RX8 47 "LyndonText" "walk" "LLyndonText$NecklaceWalk;") (by decide +kernel)) (fun _ h9 => h9) rfl hin rfl (by decide +kernel) rfl rfl (Nat.le_of_ble_eq_true rfl) dX8_init_67 (fun H locs hP hD hS => ?_)
  have hP : va_P D vwCl [(h0, .inr (6, [.ref a1, .ref a3, .ref a5, .ref a7, .ref a11, .ref a13])), (a1, .inr (2, [.ref a2, .int 0])), (a2, .inl (cI, 64, .inl (fun _ => 0))), (a3, .inr (1, [.ref a4, .int 0])), (a4, .inl (cI, 65, .inl (fun _ => 0))), (a5, .inr (0, [.ref a6])), (a6, .inl (cI, 65, .inl (fun _ => 0))), (a7, .inr (4, [.ref a8, .ref a9, .ref a10, .int 0])), (a8, .inl (cI, 64, .inl (fun _ => 0))), (a9, .inl (cI, 64, .inl (fun _ => 0))), (a10, .inl (cI, 64, .inl (fun _ => 0))), (a11, .inr (5, [.ref a12])), (a12, .inl (cI, 65, .inl (fun _ => 0))), (a13, .inr (3, [.int 0, .int 1, .int 0, .int 1]))] H := hP
  have hD : va_D A [(h0, .inr (6, [.ref a1, .ref a3, .ref a5, .ref a7, .ref a11, .ref a13])), (a1, .inr (2, [.ref a2, .int 0])), (a2, .inl (cI, 64, .inl (fun _ => 0))), (a3, .inr (1, [.ref a4, .int 0])), (a4, .inl (cI, 65, .inl (fun _ => 0))), (a5, .inr (0, [.ref a6])), (a6, .inl (cI, 65, .inl (fun _ => 0))), (a7, .inr (4, [.ref a8, .ref a9, .ref a10, .int 0])), (a8, .inl (cI, 64, .inl (fun _ => 0))), (a9, .inl (cI, 64, .inl (fun _ => 0))), (a10, .inl (cI, 64, .inl (fun _ => 0))), (a11, .inr (5, [.ref a12])), (a12, .inl (cI, 65, .inl (fun _ => 0))), (a13, .inr (3, [.int 0, .int 1, .int 0, .int 1]))] := hD
  have hP9 := hP.sub (ws' := [(h0, .inr (6, [.ref a1, .ref a3, .ref a5, .ref a7, .ref a11, .ref a13])), (a1, .inr (2, [.ref a2, .int 0])), (a2, .inl (cI, 64, .inl (fun _ => 0))), (a3, .inr (1, [.ref a4, .int 0])), (a4, .inl (cI, 65, .inl (fun _ => 0))), (a5, .inr (0, [.ref a6])), (a6, .inl (cI, 65, .inl (fun _ => 0))), (a7, .inr (4, [.ref a8, .ref a9, .ref a10, .int 0])), (a8, .inl (cI, 64, .inl (fun _ => 0))), (a9, .inl (cI, 64, .inl (fun _ => 0))), (a10, .inl (cI, 64, .inl (fun _ => 0))), (a11, .inr (5, [.ref a12])), (a12, .inl (cI, 65, .inl (fun _ => 0))), (a13, .inr (3, [.int 0, .int 1, .int 0, .int 1]))]) [0, 1, 2, 3, 4, 5, 6, 7, 8, 9, 10, 11, 12, 13] rfl
  have hD9 := hD.sub (ws' := [(h0, .inr (6, [.ref a1, .ref a3, .ref a5, .ref a7, .ref a11, .ref a13])), (a1, .inr (2, [.ref a2, .int 0])), (a2, .inl (cI, 64, .inl (fun _ => 0))), (a3, .inr (1, [.ref a4, .int 0])), (a4, .inl (cI, 65, .inl (fun _ => 0))), (a5, .inr (0, [.ref a6])), (a6, .inl (cI, 65, .inl (fun _ => 0))), (a7, .inr (4, [.ref a8, .ref a9, .ref a10, .int 0])), (a8, .inl (cI, 64, .inl (fun _ => 0))), (a9, .inl (cI, 64, .inl (fun _ => 0))), (a10, .inl (cI, 64, .inl (fun _ => 0))), (a11, .inr (5, [.ref a12])), (a12, .inl (cI, 65, .inl (fun _ => 0))), (a13, .inr (3, [.int 0, .int 1, .int 0, .int 1]))]) [0, 1, 2, 3, 4, 5, 6, 7, 8, 9, 10, 11, 12, 13] (by decide) rfl
  exact W.vret hx hb hr (fun t ht hW => ⟨⟨(), rfl, trivial, a1, a2, a3, a4, a5, a6, a7, a8, a9, a10, a11, a12, a13, by rw [ht]; exact hP9, hD9⟩, hS.F ht⟩) hS.2.2 dX8_init_70
