theorem gInj_of {A : Nat → Prop} {ws : va_W} (as : List Nat) (h : ws.map Prod.fst = as) (hl : as.length = 28) (hD : va_D A ws) : gInj 28 (fun k => as.getD k 0) ∧ ∀ k, k < 28 → A (as.getD k 0) := by
  have hg : ∀ k, k < 28 → ∃ p, ws[k]? = some p ∧ p.1 = as.getD k 0 := by
    intro k hk
    have hk2 : k < ws.length := by rw [← List.length_map (f := Prod.fst), h, hl]; exact hk
    refine ⟨ws[k], List.getElem?_eq_getElem hk2, ?_⟩
    rw [← h, List.getD_eq_getElem?_getD, List.getElem?_map, List.getElem?_eq_getElem hk2]; rfl
  refine ⟨fun i j hi hj e => ?_, fun k hk => ?_⟩
  · obtain ⟨p, h1, h2⟩ := hg i hi
    obtain ⟨r, h3, h4⟩ := hg j hj
    exact hD.1 i j p r h1 h3 (by rw [h2, h4]; exact e)
  · obtain ⟨p, h1, h2⟩ := hg k hk
    rw [← h2]; exact hD.2 k p h1
theorem gNest_tbl : ∀ w ∈ gNest, w ∈ lw_tbl := by decide +kernel
theorem gNest_on : ∀ w ∈ gNest, w.onTables = true := List.all_eq_true.mp (by decide +kernel)
theorem gStr_tbl : ∀ z ∈ gStr, Cond.stringRef RX8 z.1 z.2 ∈ lw_tbl := by decide +kernel
theorem gCast_tbl : ∀ E ∈ gE3, Cond.castable E E ∈ lw_tbl := by decide +kernel
theorem gUp_tbl : ∀ Y ∈ gUp, Cond.declares (Bundle.initS Y) ∈ lw_tbl := by decide +kernel
theorem gNc_flat : ∀ E ∈ gE3, ∀ F ∈ gE3, E ≠ F → Cond.not (.castable E F) ∈ flatC (Jvm.Cond.and given_1 narrow_1) := by decide +kernel
theorem gU_flat : Cond.isRef (.static Bundle.tN "UNASSIGNED_STACK" Bundle.steD) ∈ flatC (Jvm.Cond.and given_1 narrow_1) ∧ Cond.isRef (.static Bundle.tN "SUPPRESSED_SENTINEL" Bundle.listD) ∈ flatC (Jvm.Cond.and given_1 narrow_1) := by decide +kernel
theorem gLays_tbl : Cond.laysStatic Bundle.tN "UNASSIGNED_STACK" Bundle.steD ∈ lw_tbl ∧ Cond.laysStatic Bundle.tN "SUPPRESSED_SENTINEL" Bundle.listD ∈ lw_tbl ∧ Cond.initialized Bundle.tN ∈ lw_tbl ∧ Cond.arrayClass .int ∈ lw_tbl := by decide +kernel
theorem gI_X0 : Cond.instantiable RX0 1 ∈ lw_tbl := by decide +kernel
theorem gI_X1 : Cond.instantiable RX1 2 ∈ lw_tbl := by decide +kernel
theorem gI_X2 : Cond.instantiable RX2 2 ∈ lw_tbl := by decide +kernel
theorem gI_X3 : Cond.instantiable RX3 4 ∈ lw_tbl := by decide +kernel
theorem gI_X6 : Cond.instantiable RX6 4 ∈ lw_tbl := by decide +kernel
theorem gI_X7 : Cond.instantiable RX7 1 ∈ lw_tbl := by decide +kernel
theorem gI_X8 : Cond.instantiable RX8 6 ∈ lw_tbl := by decide +kernel
theorem gArr {s : State} {args : Array Value} {ty : FieldType} (h : (Cond.arrayClass ty).before args s = true) : ∃ cA : ClassId, ArrOfT s cA ty ∧ s.vm.findClass ("[" ++ ty.toString) = some cA := by
  obtain ⟨c, k, comp, h1, h2, h3⟩ := Cond.arrayClass_spec (show (Cond.arrayClass ty).holds args s none s [] = true from h)
  exact ⟨c, fun n z => ⟨fun k9 h9 => (by cases h9), k, h2, comp, h3⟩, h1⟩
theorem gXs_of {args : Array Value} {s : State} (hts : ∀ w ∈ lw_tbl, w.before args s = true) {cX : ClassId} (hc : s.vm.findClass RX8 = some cX) (hgv : (Jvm.Cond.and given_1 narrow_1).before args s = true) : ∃ sa : Nat → Nat, gXs sa s := by
  have hs := flat_of_before _ hgv
  have h1 : ∀ z ∈ gStr, ∃ a, vk_R RX8 z.1 z.2 a s := fun z hz => by
    have h2 : (Cond.stringRef RX8 z.1 z.2).before #[] s = true := hts _ (gStr_tbl z hz)
    obtain ⟨-, -, -, a, -, -, -, -, -, h3⟩ := Cond.stringRef_spec hc (show (Cond.stringRef RX8 z.1 z.2).holds #[] s none s [] = true from h2)
    exact ⟨a, h2, h3⟩
  refine ⟨fun k => if h : ∃ z ∈ gStr, z.1 = k then (h1 h.choose h.choose_spec.1).choose else 0, fun z hz => ?_, fun E hE => va_Nw.of rfl (hts _ (gCast_tbl E hE)), fun E hE F hF n => va_Nc.of (hs _ (gNc_flat E hE F hF n)), fun Y hY => va_Nw.of rfl (hts _ (gUp_tbl Y hY))⟩
  have hex : ∃ y ∈ gStr, y.1 = z.1 := ⟨z, hz, rfl⟩
  have hy : hex.choose = z := by
    have h4 : ∀ y ∈ gStr, ∀ z ∈ gStr, y.1 = z.1 → y = z := by decide +kernel
    exact h4 _ hex.choose_spec.1 z hz hex.choose_spec.2
  dsimp only
  rw [dif_pos hex]
  have h5 := (h1 hex.choose hex.choose_spec.1).choose_spec
  generalize (h1 hex.choose hex.choose_spec.1).choose = a at h5
  rw [hy] at h5
  exact h5
set_option maxHeartbeats 4000000 in
set_option maxRecDepth 100000 in
theorem whole_start {p : Program} {e : Env} {s : State} {m : MethodId} {below : List Frame} {meth : Method} {c : Code} (l : Launch) (hflags : l.flags = flags0) {b L : Nat} {xs : Nat → Int32} (hL : L ≤ 260) (C0 : lw_At p s m meth c b L xs) : W p l e room_1 s m #[Value.ref b] below meth c s.heap [] 0 0 (lw_Z below #[Value.ref b] s) (entryFrame m ([Value.ref b] : List Value).toArray 8) := by
  obtain ⟨hx, hb, hr, hml, hown, hts0, hX, hbl, hlocks, hgv⟩ := id C0
  have hown : s.vm.findClass RL = some m.cls := hown
  have hlt : l.stackTraces = false := by unfold Launch.stackTraces; rw [hflags]; decide +kernel
  have hts : ∀ w ∈ wsL_law, w.before #[Value.ref b] s = true := fun w h => hts0 w (wsL_law_in w h)
  have hbA : ¬ (fun a : Nat => s.heap.size ≤ a) b := Nat.not_le.mpr hbl
  have hA : ∀ q : Nat, s.heap.size ≤ q → (fun a : Nat => s.heap.size ≤ a) q := fun _ h => h
  obtain ⟨c0, i0, hK0⟩ := u_known (C := RX0) (T := TX0) (N := 1) (n := 1) hts0 wsX00_tin (hts0 _ gI_X0)
  obtain ⟨c1, i1, hK1⟩ := u_known (C := RX1) (T := TX1) (N := 2) (n := 2) hts0 wsX10_tin (hts0 _ gI_X1)
  obtain ⟨c2, i2, hK2⟩ := u_known (C := RX2) (T := TX2) (N := 2) (n := 2) hts0 wsX20_tin (hts0 _ gI_X2)
  obtain ⟨c3, i3, hK3⟩ := u_known (C := RX3) (T := TX3) (N := 4) (n := 4) hts0 wsX30_tin (hts0 _ gI_X3)
  obtain ⟨c4, i4, hK4⟩ := u_known (C := RX6) (T := TX6) (N := 4) (n := 4) hts0 wsX60_tin (hts0 _ gI_X6)
  obtain ⟨c5, i5, hK5⟩ := u_known (C := RX7) (T := TX7) (N := 1) (n := 1) hts0 wsX70_tin (hts0 _ gI_X7)
  obtain ⟨c6, i6, hK6⟩ := u_known (C := RX8) (T := TX8) (N := 6) (n := 6) hts0 wsX80_tin (hts0 _ gI_X8)
  obtain ⟨D, hKc⟩ : ∃ D : va_G, ∀ (k : Nat) (q : vw_C), vwCl[k]? = some q → u_Kn s q.1 q.2.1 q.2.2 (D.1 k) (D.2 k) := by
    refine ⟨(fun k => [c0, c1, c2, c3, c4, c5, c6].getD k c0, fun k => [i0, i1, i2, i3, i4, i5, i6].getD k i0), ?_⟩
    intro k q hq
    match k, hq with
    | 0, hq => cases hq; exact hK0
    | 1, hq => cases hq; exact hK1
    | 2, hq => cases hq; exact hK2
    | 3, hq => cases hq; exact hK3
    | 4, hq => cases hq; exact hK4
    | 5, hq => cases hq; exact hK5
    | 6, hq => cases hq; exact hK6
    | k + 7, hq => simp [vwCl] at hq
  obtain ⟨cI, hI1, hI2⟩ := gArr (hts0 _ gLays_tbl.2.2.2)
  obtain ⟨cJ, hcJ⟩ : ∃ cJ : ClassId, cJ = cI := ⟨cI, rfl⟩
  obtain ⟨cD, hcD⟩ : ∃ cD : ClassId, cD = cI := ⟨cI, rfl⟩
  have hE : gEv D cI cJ cD s := by
    refine ⟨⟨hKc, fun k q hk => ?_⟩, fun w hw => va_Nw.of (gNest_on w hw) (hts0 w (gNest_tbl w hw))⟩
    match k, hk with
    | 0, hk => cases hk; exact ⟨hI1, hI2⟩
    | k + 1, hk => simp [gTy] at hk
  obtain ⟨sa, hXs⟩ := gXs_of hts0 hK6.2.1 hgv
  have hfl := flat_of_before _ hgv
  have hXe : gXe sa (fun a => s.heap.size ≤ a) s s.heap := ⟨hXs, vx_Zqof (hts0 _ gLays_tbl.1) (hts0 _ gLays_tbl.2.2.1) (hfl _ gU_flat.1) (fun a h => Nat.not_le.mpr h), vx_Zqof (hts0 _ gLays_tbl.2.1) (hts0 _ gLays_tbl.2.2.1) (hfl _ gU_flat.2) (fun a h => Nat.not_le.mpr h)⟩
  have hS : va_S (fun a : Nat => s.heap.size ≤ a) s.heap s.heap [] := va_S.rf
  have hP : va_P D vwCl [] s.heap := fun k q h => by simp at h
  have hD : va_D (fun a : Nat => s.heap.size ≤ a) [] := ⟨fun i j p q h => by simp at h, fun k q h => by simp at h⟩
  have hl := lv_entry ([.ref b]) (n := 8) (Nat.le_of_ble_eq_true rfl)
  rw [lg_entry_eq]
  generalize (lg_sl ([.ref b]) ++ List.replicate (8 - (lg_sl ([.ref b])).length) Slot.unset).toArray = ls at hl ⊢
  have hl : lv_has ls 8 [(0, .ref b)] := hl
  have huX8 : ∀ w ∈ u_ws RX8 TX8 6, w ∈ wsL_law := by decide +kernel
  refine va_new (ci := 6) (fs := [.null, .null, .null, .null, .null, .null]) (C := RX8) (T := TX8) (N := 6) hx hb hts huX8 tyX8 tyX8_ok hown (hts (.classLink RL 9 RX8) (by decide +kernel)) (hts (.instantiable RX8 6) (by decide +kernel)) (hts (.initialized RX8) (by decide +kernel)) hE.1 hP hD hS hA rfl (fun j hj => by rcases (show j = 0 ∨ j = 1 ∨ j = 2 ∨ j = 3 ∨ j = 4 ∨ j = 5 by omega) with rfl | rfl | rfl | rfl | rfl | rfl <;> rfl) (Nat.le_of_ble_eq_true rfl) (Nat.le_of_ble_eq_true rfl) dL_law_0 (fun b0 H hP hD hS => ?_)
  have hP : va_P D vwCl [(b0, .inr (6, [.null, .null, .null, .null, .null, .null]))] H := hP
  have hD : va_D (fun a : Nat => s.heap.size ≤ a) [(b0, .inr (6, [.null, .null, .null, .null, .null, .null]))] := hD
  refine lv_dup hx hb dL_law_3 rfl ?_
  have hPc := hP.sub (ws' := [(b0, .inr (6, [.null, .null, .null, .null, .null, .null]))]) [0] rfl
  have hDc := hD.sub (ws' := [(b0, .inr (6, [.null, .null, .null, .null, .null, .null]))]) [0] (by decide) rfl
  have hFc := va_free (wc := [(b0, .inr (6, [.null, .null, .null, .null, .null, .null]))]) hD hS hA [0] rfl
  refine va_callv (va_runI (As := []) (rest := [.ref b0]) ⟨hx, hb, hml, hown, hts⟩ (kX8_init l D cI cJ cD b0 H.size) (cwI 0 hts gL_law_X8_init rfl rfl rfl (hts (.initialized RX8) (by decide +kernel)) (hts (.methodLink RL 170 yX8_init) (by decide +kernel)) (hts (.instanceMethod yX8_init) (by decide +kernel)) rfl (by decide +kernel) ⟨(Nat.le_of_ble_eq_true rfl), (Nat.le_of_ble_eq_true rfl)⟩) ⟨gPn_blind, fun U hU hW => ⟨rfl, by rw [hU], by rw [hU]; exact hPc, gEv.warm hW hE, hDc.weaken (fun _ _ _ _ => trivial)⟩⟩ rfl rfl hl.1 rfl (lv_room (Nat.le_of_ble_eq_true rfl)) dL_law_4 ⟨(Nat.le_of_ble_eq_true rfl), (Nat.le_of_ble_eq_true rfl)⟩) hS (fun q _ h => hFc q h) hFc (fun u t H1 locs ht hvm hw hB hz1 hk1 hS => ?_)
  obtain ⟨b1, b2, b3, b4, b5, b6, b7, b8, b9, b10, b11, b12, b13, hP1, hD1⟩ := hB
  rw [ht] at hP1
  obtain ⟨hP, hD⟩ := va_join (wr := []) (w1 := [(b0, .inr (6, [.ref b1, .ref b3, .ref b5, .ref b7, .ref b11, .ref b13])), (b1, .inr (2, [.ref b2, .int 0])), (b2, .inl (cI, 64, .inl (fun _ => 0))), (b3, .inr (1, [.ref b4, .int 0])), (b4, .inl (cI, 65, .inl (fun _ => 0))), (b5, .inr (0, [.ref b6])), (b6, .inl (cI, 65, .inl (fun _ => 0))), (b7, .inr (4, [.ref b8, .ref b9, .ref b10, .int 0])), (b8, .inl (cI, 64, .inl (fun _ => 0))), (b9, .inl (cI, 64, .inl (fun _ => 0))), (b10, .inl (cI, 64, .inl (fun _ => 0))), (b11, .inr (5, [.ref b12])), (b12, .inl (cI, 65, .inl (fun _ => 0))), (b13, .inr (3, [.int 0, .int 1, .int 0, .int 1]))]) hP hD [0] [] rfl rfl (by decide) (by decide) hk1 hFc hP1 hD1
  generalize H1 = H at hP hS ⊢
  have hP : va_P D vwCl [(b0, .inr (6, [.ref b1, .ref b3, .ref b5, .ref b7, .ref b11, .ref b13])), (b1, .inr (2, [.ref b2, .int 0])), (b2, .inl (cI, 64, .inl (fun _ => 0))), (b3, .inr (1, [.ref b4, .int 0])), (b4, .inl (cI, 65, .inl (fun _ => 0))), (b5, .inr (0, [.ref b6])), (b6, .inl (cI, 65, .inl (fun _ => 0))), (b7, .inr (4, [.ref b8, .ref b9, .ref b10, .int 0])), (b8, .inl (cI, 64, .inl (fun _ => 0))), (b9, .inl (cI, 64, .inl (fun _ => 0))), (b10, .inl (cI, 64, .inl (fun _ => 0))), (b11, .inr (5, [.ref b12])), (b12, .inl (cI, 65, .inl (fun _ => 0))), (b13, .inr (3, [.int 0, .int 1, .int 0, .int 1]))] H := hP
  have hD : va_D (fun a : Nat => s.heap.size ≤ a) [(b0, .inr (6, [.ref b1, .ref b3, .ref b5, .ref b7, .ref b11, .ref b13])), (b1, .inr (2, [.ref b2, .int 0])), (b2, .inl (cI, 64, .inl (fun _ => 0))), (b3, .inr (1, [.ref b4, .int 0])), (b4, .inl (cI, 65, .inl (fun _ => 0))), (b5, .inr (0, [.ref b6])), (b6, .inl (cI, 65, .inl (fun _ => 0))), (b7, .inr (4, [.ref b8, .ref b9, .ref b10, .int 0])), (b8, .inl (cI, 64, .inl (fun _ => 0))), (b9, .inl (cI, 64, .inl (fun _ => 0))), (b10, .inl (cI, 64, .inl (fun _ => 0))), (b11, .inr (5, [.ref b12])), (b12, .inl (cI, 65, .inl (fun _ => 0))), (b13, .inr (3, [.int 0, .int 1, .int 0, .int 1]))] := hD
  refine lv_astore_n (lv' := [(1, .ref b0), (0, .ref b)]) hx hb dL_law_7 rfl hl (by decide) rfl (fun ls hl => ?_)
  refine va_new (ci := 6) (fs := [.null, .null, .null, .null, .null, .null]) (C := RX8) (T := TX8) (N := 6) hx hb hts huX8 tyX8 tyX8_ok hown (hts (.classLink RL 9 RX8) (by decide +kernel)) (hts (.instantiable RX8 6) (by decide +kernel)) (hts (.initialized RX8) (by decide +kernel)) hE.1 hP hD hS hA rfl (fun j hj => by rcases (show j = 0 ∨ j = 1 ∨ j = 2 ∨ j = 3 ∨ j = 4 ∨ j = 5 by omega) with rfl | rfl | rfl | rfl | rfl | rfl <;> rfl) (Nat.le_of_ble_eq_true rfl) (Nat.le_of_ble_eq_true rfl) dL_law_8 (fun b14 H hP hD hS => ?_)
  have hP : va_P D vwCl [(b0, .inr (6, [.ref b1, .ref b3, .ref b5, .ref b7, .ref b11, .ref b13])), (b1, .inr (2, [.ref b2, .int 0])), (b2, .inl (cI, 64, .inl (fun _ => 0))), (b3, .inr (1, [.ref b4, .int 0])), (b4, .inl (cI, 65, .inl (fun _ => 0))), (b5, .inr (0, [.ref b6])), (b6, .inl (cI, 65, .inl (fun _ => 0))), (b7, .inr (4, [.ref b8, .ref b9, .ref b10, .int 0])), (b8, .inl (cI, 64, .inl (fun _ => 0))), (b9, .inl (cI, 64, .inl (fun _ => 0))), (b10, .inl (cI, 64, .inl (fun _ => 0))), (b11, .inr (5, [.ref b12])), (b12, .inl (cI, 65, .inl (fun _ => 0))), (b13, .inr (3, [.int 0, .int 1, .int 0, .int 1])), (b14, .inr (6, [.null, .null, .null, .null, .null, .null]))] H := hP
  have hD : va_D (fun a : Nat => s.heap.size ≤ a) [(b0, .inr (6, [.ref b1, .ref b3, .ref b5, .ref b7, .ref b11, .ref b13])), (b1, .inr (2, [.ref b2, .int 0])), (b2, .inl (cI, 64, .inl (fun _ => 0))), (b3, .inr (1, [.ref b4, .int 0])), (b4, .inl (cI, 65, .inl (fun _ => 0))), (b5, .inr (0, [.ref b6])), (b6, .inl (cI, 65, .inl (fun _ => 0))), (b7, .inr (4, [.ref b8, .ref b9, .ref b10, .int 0])), (b8, .inl (cI, 64, .inl (fun _ => 0))), (b9, .inl (cI, 64, .inl (fun _ => 0))), (b10, .inl (cI, 64, .inl (fun _ => 0))), (b11, .inr (5, [.ref b12])), (b12, .inl (cI, 65, .inl (fun _ => 0))), (b13, .inr (3, [.int 0, .int 1, .int 0, .int 1])), (b14, .inr (6, [.null, .null, .null, .null, .null, .null]))] := hD
  refine lv_dup hx hb dL_law_11 rfl ?_
  have hPc := hP.sub (ws' := [(b14, .inr (6, [.null, .null, .null, .null, .null, .null]))]) [14] rfl
  have hDc := hD.sub (ws' := [(b14, .inr (6, [.null, .null, .null, .null, .null, .null]))]) [14] (by decide) rfl
  have hFc := va_free (wc := [(b14, .inr (6, [.null, .null, .null, .null, .null, .null]))]) hD hS hA [14] rfl
  refine va_callv (va_runI (As := []) (rest := [.ref b14]) ⟨hx, hb, hml, hown, hts⟩ (kX8_init l D cI cJ cD b14 H.size) (cwI 0 hts gL_law_X8_init rfl rfl rfl (hts (.initialized RX8) (by decide +kernel)) (hts (.methodLink RL 170 yX8_init) (by decide +kernel)) (hts (.instanceMethod yX8_init) (by decide +kernel)) rfl (by decide +kernel) ⟨(Nat.le_of_ble_eq_true rfl), (Nat.le_of_ble_eq_true rfl)⟩) ⟨gPn_blind, fun U hU hW => ⟨rfl, by rw [hU], by rw [hU]; exact hPc, gEv.warm hW hE, hDc.weaken (fun _ _ _ _ => trivial)⟩⟩ rfl rfl hl.1 rfl (lv_room (Nat.le_of_ble_eq_true rfl)) dL_law_12 ⟨(Nat.le_of_ble_eq_true rfl), (Nat.le_of_ble_eq_true rfl)⟩) hS (fun q _ h => hFc q h) hFc (fun u t H1 locs ht hvm hw hB hz1 hk1 hS => ?_)
  obtain ⟨b15, b16, b17, b18, b19, b20, b21, b22, b23, b24, b25, b26, b27, hP1, hD1⟩ := hB
  rw [ht] at hP1
  obtain ⟨hP, hD⟩ := va_join (wr := [(b0, .inr (6, [.ref b1, .ref b3, .ref b5, .ref b7, .ref b11, .ref b13])), (b1, .inr (2, [.ref b2, .int 0])), (b2, .inl (cI, 64, .inl (fun _ => 0))), (b3, .inr (1, [.ref b4, .int 0])), (b4, .inl (cI, 65, .inl (fun _ => 0))), (b5, .inr (0, [.ref b6])), (b6, .inl (cI, 65, .inl (fun _ => 0))), (b7, .inr (4, [.ref b8, .ref b9, .ref b10, .int 0])), (b8, .inl (cI, 64, .inl (fun _ => 0))), (b9, .inl (cI, 64, .inl (fun _ => 0))), (b10, .inl (cI, 64, .inl (fun _ => 0))), (b11, .inr (5, [.ref b12])), (b12, .inl (cI, 65, .inl (fun _ => 0))), (b13, .inr (3, [.int 0, .int 1, .int 0, .int 1]))]) (w1 := [(b14, .inr (6, [.ref b15, .ref b17, .ref b19, .ref b21, .ref b25, .ref b27])), (b15, .inr (2, [.ref b16, .int 0])), (b16, .inl (cI, 64, .inl (fun _ => 0))), (b17, .inr (1, [.ref b18, .int 0])), (b18, .inl (cI, 65, .inl (fun _ => 0))), (b19, .inr (0, [.ref b20])), (b20, .inl (cI, 65, .inl (fun _ => 0))), (b21, .inr (4, [.ref b22, .ref b23, .ref b24, .int 0])), (b22, .inl (cI, 64, .inl (fun _ => 0))), (b23, .inl (cI, 64, .inl (fun _ => 0))), (b24, .inl (cI, 64, .inl (fun _ => 0))), (b25, .inr (5, [.ref b26])), (b26, .inl (cI, 65, .inl (fun _ => 0))), (b27, .inr (3, [.int 0, .int 1, .int 0, .int 1]))]) hP hD [14] [0, 1, 2, 3, 4, 5, 6, 7, 8, 9, 10, 11, 12, 13] rfl rfl (by decide) (by decide) hk1 hFc hP1 hD1
  generalize H1 = H at hP hS ⊢
  have hP : va_P D vwCl [(b0, .inr (6, [.ref b1, .ref b3, .ref b5, .ref b7, .ref b11, .ref b13])), (b1, .inr (2, [.ref b2, .int 0])), (b2, .inl (cI, 64, .inl (fun _ => 0))), (b3, .inr (1, [.ref b4, .int 0])), (b4, .inl (cI, 65, .inl (fun _ => 0))), (b5, .inr (0, [.ref b6])), (b6, .inl (cI, 65, .inl (fun _ => 0))), (b7, .inr (4, [.ref b8, .ref b9, .ref b10, .int 0])), (b8, .inl (cI, 64, .inl (fun _ => 0))), (b9, .inl (cI, 64, .inl (fun _ => 0))), (b10, .inl (cI, 64, .inl (fun _ => 0))), (b11, .inr (5, [.ref b12])), (b12, .inl (cI, 65, .inl (fun _ => 0))), (b13, .inr (3, [.int 0, .int 1, .int 0, .int 1])), (b14, .inr (6, [.ref b15, .ref b17, .ref b19, .ref b21, .ref b25, .ref b27])), (b15, .inr (2, [.ref b16, .int 0])), (b16, .inl (cI, 64, .inl (fun _ => 0))), (b17, .inr (1, [.ref b18, .int 0])), (b18, .inl (cI, 65, .inl (fun _ => 0))), (b19, .inr (0, [.ref b20])), (b20, .inl (cI, 65, .inl (fun _ => 0))), (b21, .inr (4, [.ref b22, .ref b23, .ref b24, .int 0])), (b22, .inl (cI, 64, .inl (fun _ => 0))), (b23, .inl (cI, 64, .inl (fun _ => 0))), (b24, .inl (cI, 64, .inl (fun _ => 0))), (b25, .inr (5, [.ref b26])), (b26, .inl (cI, 65, .inl (fun _ => 0))), (b27, .inr (3, [.int 0, .int 1, .int 0, .int 1]))] H := hP
  have hD : va_D (fun a : Nat => s.heap.size ≤ a) [(b0, .inr (6, [.ref b1, .ref b3, .ref b5, .ref b7, .ref b11, .ref b13])), (b1, .inr (2, [.ref b2, .int 0])), (b2, .inl (cI, 64, .inl (fun _ => 0))), (b3, .inr (1, [.ref b4, .int 0])), (b4, .inl (cI, 65, .inl (fun _ => 0))), (b5, .inr (0, [.ref b6])), (b6, .inl (cI, 65, .inl (fun _ => 0))), (b7, .inr (4, [.ref b8, .ref b9, .ref b10, .int 0])), (b8, .inl (cI, 64, .inl (fun _ => 0))), (b9, .inl (cI, 64, .inl (fun _ => 0))), (b10, .inl (cI, 64, .inl (fun _ => 0))), (b11, .inr (5, [.ref b12])), (b12, .inl (cI, 65, .inl (fun _ => 0))), (b13, .inr (3, [.int 0, .int 1, .int 0, .int 1])), (b14, .inr (6, [.ref b15, .ref b17, .ref b19, .ref b21, .ref b25, .ref b27])), (b15, .inr (2, [.ref b16, .int 0])), (b16, .inl (cI, 64, .inl (fun _ => 0))), (b17, .inr (1, [.ref b18, .int 0])), (b18, .inl (cI, 65, .inl (fun _ => 0))), (b19, .inr (0, [.ref b20])), (b20, .inl (cI, 65, .inl (fun _ => 0))), (b21, .inr (4, [.ref b22, .ref b23, .ref b24, .int 0])), (b22, .inl (cI, 64, .inl (fun _ => 0))), (b23, .inl (cI, 64, .inl (fun _ => 0))), (b24, .inl (cI, 64, .inl (fun _ => 0))), (b25, .inr (5, [.ref b26])), (b26, .inl (cI, 65, .inl (fun _ => 0))), (b27, .inr (3, [.int 0, .int 1, .int 0, .int 1]))] := hD
  refine lv_astore_n (lv' := [(2, .ref b14), (1, .ref b0), (0, .ref b)]) hx hb dL_law_15 rfl hl (by decide) rfl (fun ls hl => ?_)
  refine lv_iconst (v := 0) hx hb dL_law_16 (by decide) ?_
  refine lv_istore_n (lv' := [(3, .int 0), (2, .ref b14), (1, .ref b0), (0, .ref b)]) hx hb dL_law_17 rfl hl (by decide) rfl (fun ls hl => ?_)
  obtain ⟨hq, hqA⟩ := gInj_of [b0, b1, b2, b3, b4, b5, b6, b7, b8, b9, b10, b11, b12, b13, b14, b15, b16, b17, b18, b19, b20, b21, b22, b23, b24, b25, b26, b27] rfl rfl hD
  refine W.widen (k := 28 + 2 * 0) (n := 942 + 12 * 0) (Nat.le_of_ble_eq_true rfl) (Nat.le_of_ble_eq_true rfl) ?_
  exact law_H18 hL C0 hlt D cI cJ cD sa (fun k => ([b0, b1, b2, b3, b4, b5, b6, b7, b8, b9, b10, b11, b12, b13, b14, b15, b16, b17, b18, b19, b20, b21, b22, b23, b24, b25, b26, b27] : List Nat).getD k 0) hq hqA hE hXe 100000 (fun _ => 0) 60 0 0 (fun _ => 0) 0 (fun _ => 0) (fun _ => 0) 0 (fun _ => 0) (fun _ => 0) (fun _ => 0) (fun _ => 0) 0 1 0 1 0 (fun _ => 0) 0 (fun _ => 0) (fun _ => 0) 0 (fun _ => 0) (fun _ => 0) (fun _ => 0) 0 1 0 1 0 rfl (Nat.zero_le _) (law_pure L hL xs) _ _ hP hS _ (lv_sub hl [3, 2, 1, 0] rfl)
