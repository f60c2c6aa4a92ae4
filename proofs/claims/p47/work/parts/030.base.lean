/-! one form for every contract: the world is a list of cells at the places q k (k below n, all apart); what a pure function answers, the method answers -/
def gInj (n : Nat) (q : Nat → Nat) : Prop := ∀ i j, i < n → j < n → q i = q j → i = j
def sh (q : Nat → Nat) : Nat → Nat := fun k => q (14 + k)
theorem gInj.o {q : Nat → Nat} (h : gInj 28 q) : gInj 14 q := fun i j hi hj e => h i j (by omega) (by omega) e
theorem gInj.p {q : Nat → Nat} (h : gInj 28 q) : gInj 14 (sh q) := fun i j hi hj e => by
  have := h (14 + i) (14 + j) (by omega) (by omega) e
  omega
def gA (q : Nat → Nat) (ks : List Nat) : Nat → Prop := fun a => ∃ k, k ∈ ks ∧ a = q k
abbrev gTy (cI cJ cD : ClassId) : List (ClassId × FieldType) := [(cI, .int)]
def gIsN : Cond → Bool
  | .methodLinkNest .. => true
  | _ => false
def gNest : List Cond := [.methodLinkNest RX8 9 yX2_init RX8, .methodLinkNest RX8 18 yX1_init RX8, .methodLinkNest RX8 25 yX0_init RX8, .methodLinkNest RX8 32 yX6_init RX8, .methodLinkNest RX8 39 yX7_init RX8, .methodLinkNest RX8 46 yX3_init RX8, .methodLinkNest RX2 19 yX8_at RX8, .methodLinkNest RX2 23 yX8_put RX8, .methodLinkNest RX1 28 yX8_put RX8, .methodLinkNest RX6 49 yX8_put RX8, .methodLinkNest RX6 25 yX8_at RX8, .methodLinkNest RX1 19 yX8_at RX8, .methodLinkNest RX0 15 yX8_put RX8, .methodLinkNest RX0 23 yX8_at RX8, .methodLinkNest RX7 25 yX8_put RX8, .methodLinkNest RX7 15 yX8_at RX8]
theorem gNest_ok : ∀ w ∈ gNest, gIsN w = true := List.all_eq_true.mp (by decide +kernel)
theorem gNw_warm {w : Cond} (h : gIsN w = true) {s U : State} (hW : s.WarmedH U.vm) (hz : va_Nw w s) : va_Nw w U := by
  cases w <;> first | exact va_Nw.warmM hW hz | (simp [gIsN] at h)
theorem gNw_same {w : Cond} (h : gIsN w = true) {u U : State} (hv : u.vm = U.vm) (hz : va_Nw w u) : va_Nw w U := by
  cases w <;> first | exact va_Nw.same rfl hv hz | (simp [gIsN] at h)
def gEv (D : va_G) (cI cJ cD : ClassId) (U : State) : Prop := va_K D vwCl (gTy cI cJ cD) U ∧ ∀ w ∈ gNest, va_Nw w U
theorem gEv.warm {D : va_G} {cI cJ cD : ClassId} {s U : State} (hW : s.WarmedH U.vm) (h : gEv D cI cJ cD s) : gEv D cI cJ cD U := ⟨va_K.moved hW.alike h.1, fun w hw => gNw_warm (gNest_ok w hw) hW (h.2 w hw)⟩
theorem gEv.same {D : va_G} {cI cJ cD : ClassId} {u U : State} (hv : u.vm = U.vm) (h : gEv D cI cJ cD u) : gEv D cI cJ cD U := ⟨va_K.moved (hv ▸ Vm.Alike.refl u.vm) h.1, fun w hw => gNw_same (gNest_ok w hw) hv (h.2 w hw)⟩
def gP (D : va_G) (cI cJ cD : ClassId) (av : List Value) (ws : va_W) : Array Value → State → Prop := va_Pc av (fun U => va_P D vwCl ws U.heap ∧ gEv D cI cJ cD U)
theorem gP_blind {D : va_G} {cI cJ cD : ClassId} {av : List Value} {ws : va_W} : FrameBlind (gP D cI cJ cD av ws) := fun a U g mk h => ⟨h.1, h.2.1, gEv.same (u := U) (U := U.calling g mk a) rfl h.2.2⟩
def gQ (D : va_G) (res : Option Value) (ws : va_W) (A : Nat → Prop) : Array Value → State → Outcome → State → Prop := fun _ st oc t => (oc = .returned res ∧ va_P D vwCl ws t.heap) ∧ va_F A st t
/-! exceptions: the texts, the statics of Throwable, what is castable -/
def gE3 : List String := ["java/lang/IllegalArgumentException", "java/lang/IllegalStateException", "java/lang/IndexOutOfBoundsException"]
def gStr : List (Nat × String) := [(237, "an argument is out of range"), (109, "the text would have more than 64 letters"), (234, "there is no such place, factor, run or rank"), (91, "the text is empty"), (239, "there is no such part"), (128, "there is no necklace with this number"), (166, "the part is no Lyndon word of two letters or more")]
def gUp : List String := ["java/lang/RuntimeException", "java/lang/Exception", Bundle.tN]
def gXs (sa : Nat → Nat) (U : State) : Prop := (∀ z ∈ gStr, vk_R RX8 z.1 z.2 (sa z.1) U) ∧ (∀ E ∈ gE3, va_Nw (.castable E E) U) ∧ (∀ E ∈ gE3, ∀ F ∈ gE3, E ≠ F → va_Nc E F U) ∧ ∀ Y ∈ gUp, va_Nw (.declares (Bundle.initS Y)) U
def gXe (sa : Nat → Nat) (A : Nat → Prop) (U : State) (H : Heap) : Prop := gXs sa U ∧ vx_Zq Bundle.tN "UNASSIGNED_STACK" Bundle.steD A U H ∧ vx_Zq Bundle.tN "SUPPRESSED_SENTINEL" Bundle.listD A U H
theorem va_Nc.moved9 {C T : String} {u U : State} (hv : u.vm.Alike U.vm) (h : va_Nc C T u) : va_Nc C T U := by
  obtain ⟨c, t, h1, h2, h3⟩ := h
  exact ⟨c, t, by rw [hv.findClass]; exact h1, by rw [hv.findClass]; exact h2, by rw [hv.assignable]; exact h3⟩
theorem gXs.warm {sa : Nat → Nat} {s U : State} (hW : s.WarmedH U.vm) (h : gXs sa s) : gXs sa U := ⟨fun z hz => vk_R.warm hW (h.1 z hz), fun E hE => va_Nw.warmC hW (h.2.1 E hE), fun E hE F hF n => va_Nc.moved9 hW.alike (h.2.2.1 E hE F hF n), fun Y hY => va_Nw.warmD hW (h.2.2.2 Y hY)⟩
theorem gXs.same {sa : Nat → Nat} {u U : State} (hv : u.vm = U.vm) (h : gXs sa u) : gXs sa U := ⟨fun z hz => vk_R.same hv.symm (h.1 z hz), fun E hE => va_Nw.same rfl hv (h.2.1 E hE), fun E hE F hF n => va_Nc.moved9 (hv ▸ Vm.Alike.refl u.vm) (h.2.2.1 E hE F hF n), fun Y hY => va_Nw.same rfl hv (h.2.2.2 Y hY)⟩
theorem gXe.go {sa : Nat → Nat} {A B : Nat → Prop} {s U : State} {H0 H : Heap} {locs : List Loc} (hW : s.WarmedH U.vm) (hS : va_S A H0 H locs) (hBA : ∀ a, B a → A a) (h : gXe sa A s H0) (hU : U.heap = H) : gXe sa B U U.heap := by
  rw [hU]
  exact ⟨gXs.warm hW h.1, vx_Zq.narrow (vx_Zq.moved hW.alike (h.2.1.kept hS.2.1)) hBA, vx_Zq.narrow (vx_Zq.moved hW.alike (h.2.2.kept hS.2.1)) hBA⟩
def gPx (D : va_G) (cI cJ cD : ClassId) (sa : Nat → Nat) (A : Nat → Prop) (av : List Value) (ws : va_W) : Array Value → State → Prop := va_Pc av (fun U => va_P D vwCl ws U.heap ∧ gEv D cI cJ cD U ∧ gXe sa A U U.heap)
theorem gPx_blind {D : va_G} {cI cJ cD : ClassId} {sa : Nat → Nat} {A : Nat → Prop} {av : List Value} {ws : va_W} : FrameBlind (gPx D cI cJ cD sa A av ws) := fun a U g mk h => ⟨h.1, h.2.1, gEv.same (u := U) (U := U.calling g mk a) rfl h.2.2.1, gXs.same (u := U) (U := U.calling g mk a) rfl h.2.2.2.1, vx_Zq.moved (Vm.Alike.refl U.vm) h.2.2.2.2.1, vx_Zq.moved (Vm.Alike.refl U.vm) h.2.2.2.2.2⟩
def gX (D : va_G) (E : String) (ws : va_W) (A : Nat → Prop) : String → State → State → Prop := fun E' st t => E' = E ∧ va_P D vwCl ws t.heap ∧ va_F A st t
/-! apartness out of the places alone -/
theorem gD_of {n9 : Nat} {q : Nat → Nat} (hq : gInj n9 q) {A : Nat → Prop} {ws : va_W} (ks : List Nat) (he : ws.map Prod.fst = ks.map q) (hn : (ks.all (fun k => decide (k < n9))) = true) (hd : va_nd ks = true) (hA : ∀ k ∈ ks, A (q k)) : va_D A ws := by
  have hg : ∀ (k : Nat) (p : Nat × va_E), ws[k]? = some p → ∃ j, ks[k]? = some j ∧ p.1 = q j := by
    intro k p h
    have h1 : (ws.map Prod.fst)[k]? = some p.1 := by rw [List.getElem?_map, h]; rfl
    rw [he, List.getElem?_map] at h1
    cases hj : ks[k]? with
    | none => rw [hj] at h1; cases h1
    | some j => rw [hj] at h1; exact ⟨j, rfl, (Option.some.inj h1).symm⟩
  refine ⟨fun i j p r hi hj hpr => ?_, fun k p hk => ?_⟩
  · obtain ⟨a, ha, ha2⟩ := hg i p hi
    obtain ⟨b, hb, hb2⟩ := hg j r hj
    have hla := List.all_eq_true.mp hn a (List.mem_of_getElem? ha)
    have hlb := List.all_eq_true.mp hn b (List.mem_of_getElem? hb)
    have hab : a = b := hq a b (of_decide_eq_true hla) (of_decide_eq_true hlb) (by rw [← ha2, ← hb2]; exact hpr)
    subst hab
    exact va_nd_inj ks hd i j a ha hb
  · obtain ⟨a, ha, ha2⟩ := hg k p hk
    rw [ha2]
    exact hA a (List.mem_of_getElem? ha)
/-- what lies behind a call: the callee's cells anew, the others as they were -/
def gSrc (src : List (Nat ⊕ Nat)) (ws w1 : va_W) : List (Option (Nat × va_E)) := src.map (fun o => match o with | .inl j => w1[j]? | .inr i => ws[i]?)
def gKeep (n9 : Nat) (ks ksc : List Nat) (src : List (Nat ⊕ Nat)) : Bool := src.all (fun o => match o with | .inl _ => true | .inr i => match ks[i]? with | some k => decide (k < n9) && !(ksc.contains k) | none => true)
theorem gJoin {D : va_G} {n9 : Nat} {q : Nat → Nat} (hq : gInj n9 q) {ws w1 ws' : va_W} {H H1 : Heap} (ks ksc : List Nat) (hks : ws.map Prod.fst = ks.map q) (hkc : (ksc.all (fun k => decide (k < n9))) = true) (src : List (Nat ⊕ Nat)) (hk : gKeep n9 ks ksc src = true) (he : ws'.map some = gSrc src ws w1)
    (hP : va_P D vwCl ws H) (hP1 : va_P D vwCl w1 H1) (hfr : ∀ a : Nat, a < H.size → ¬ gA q ksc a → H1[a]? = H[a]?) : va_P D vwCl ws' H1 := by
  intro k p hp
  have h1 : (ws'.map some)[k]? = some (some p) := by rw [List.getElem?_map, hp]; rfl
  rw [he, gSrc, List.getElem?_map] at h1
  cases ho : src[k]? with
  | none => rw [ho] at h1; cases h1
  | some o =>
    rw [ho] at h1
    have h2 := Option.some.inj h1
    have h3 := List.all_eq_true.mp hk o (List.mem_of_getElem? ho)
    cases o with
    | inl j => exact hP1 j p h2
    | inr i =>
      have h4 : ws[i]? = some p := h2
      have h5 : (ws.map Prod.fst)[i]? = some p.1 := by rw [List.getElem?_map, h4]; rfl
      rw [hks, List.getElem?_map] at h5
      cases hj : ks[i]? with
      | none => rw [hj] at h5; cases h5
      | some z =>
        rw [hj] at h5
        have h6 : q z = p.1 := Option.some.inj h5
        simp only [hj, Bool.and_eq_true, decide_eq_true_eq, Bool.not_eq_true', List.contains_eq_mem, decide_eq_false_iff_not] at h3
        refine (hP i p h4).kept (hfr p.1 (hP i p h4).lt fun hx => ?_)
        obtain ⟨y, hy, hy2⟩ := hx
        have hyl := of_decide_eq_true (List.all_eq_true.mp hkc y hy)
        have : z = y := hq z y h3.1 hyl (by rw [h6, hy2])
        exact h3.2 (this ▸ hy)
section GR
variable {p : Program} {l : Launch} {e : Env} {R : Room} {s : State} {m : MethodId} {args : Array Value} {below : List Frame} {meth : Method} {c : Code} {H : Heap} {locs : List Loc} {cells slots : Nat} {Q : State → Prop}
variable {pc n9 : Nat} {ls : Array Slot} {rest st0 st1 : List Value} {a : Array Value} {A0 : Nat → Prop} {H0 : Heap} {mc ms : Nat} {D : va_G} {q : Nat → Nat}
/-- a call that returns; the callee's places have names of their own -/
theorem g_callS {res : Option Value} {ws w1 ws' : va_W} {qc : Nat → Nat} {kc : List Nat} (hq : gInj n9 q) (ks ksc : List Nat) (hsub : ∀ x, gA qc kc x → gA q ksc x) (src : List (Nat ⊕ Nat)) (hr : va_Run p l e R s m args below meth c H locs cells slots mc ms (F0 m pc ls st0) rest (gQ D res w1 (gA qc kc) a) (gA qc kc))
    (hP : va_P D vwCl ws H) (hS : va_S A0 H0 H locs) (hA : ∀ k ∈ ksc, A0 (q k)) (hks : ws.map Prod.fst = ks.map q) (hkc : (ksc.all (fun k => decide (k < n9))) = true) (hk : gKeep n9 ks ksc src = true) (he : ws'.map some = gSrc src ws w1) (hst : res.toList ++ rest = st1)
    (kk : ∀ (H1 : Heap) (locs1 : List Loc), va_P D vwCl ws' H1 → va_S A0 H0 H1 locs1 → W p l e R s m args below meth c H1 locs1 (cells + mc) (slots + ms) Q (F0 m (pc + 3) ls st1)) : W p l e R s m args below meth c H locs cells slots Q (F0 m pc ls st0) := by
  have hA9 : ∀ x, gA qc kc x → A0 x := fun x hx => by obtain ⟨k, h1, h2⟩ := hsub x hx; rw [h2]; exact hA k h1
  intro T hT X
  obtain ⟨v, st₀, t, T', L, h0, X', hL, e1, e2, ⟨⟨hv, hb⟩, hz, hkp⟩, st⟩ := hr T hT X
  cases hv
  rw [h0] at hz hkp
  subst hst
  obtain ⟨t2, a1, b1⟩ := kk T'.heap (locs ++ L) (by rw [e1]; exact gJoin hq ks ksc hks hkc src hk he hP hb (fun a h1 h2 => hkp a h1 (fun z => h2 (hsub a z))))
    ⟨Nat.le_trans hS.1 (by rw [e1]; exact hz), fun q1 h1 h2 => by rw [e1, hkp q1 (Nat.lt_of_lt_of_le h1 hS.1) (fun z => h2 (hA9 q1 z))]; exact hS.2.1 q1 h1 h2, fun q1 hq1 => by
      rcases List.mem_append.mp hq1 with h | h
      · exact hS.2.2 q1 h
      · exact hA9 _ (hL q1 h)⟩ T' rfl X'
  exact ⟨t2, st t2 a1, b1⟩
/-- a call that returns -/
theorem g_call {res : Option Value} {ws w1 ws' : va_W} (hq : gInj n9 q) (ks ksc : List Nat) (src : List (Nat ⊕ Nat)) (hr : va_Run p l e R s m args below meth c H locs cells slots mc ms (F0 m pc ls st0) rest (gQ D res w1 (gA q ksc) a) (gA q ksc))
    (hP : va_P D vwCl ws H) (hS : va_S A0 H0 H locs) (hA : ∀ k ∈ ksc, A0 (q k)) (hks : ws.map Prod.fst = ks.map q) (hkc : (ksc.all (fun k => decide (k < n9))) = true) (hk : gKeep n9 ks ksc src = true) (he : ws'.map some = gSrc src ws w1) (hst : res.toList ++ rest = st1)
    (kk : ∀ (H1 : Heap) (locs1 : List Loc), va_P D vwCl ws' H1 → va_S A0 H0 H1 locs1 → W p l e R s m args below meth c H1 locs1 (cells + mc) (slots + ms) Q (F0 m (pc + 3) ls st1)) : W p l e R s m args below meth c H locs cells slots Q (F0 m pc ls st0) :=
  g_callS hq ks ksc (fun _ h => h) src hr hP hS hA hks hkc hk he hst kk
/-- a call that throws -/
theorem g_callX {E : String} {ws w1 ws' : va_W} (hq : gInj n9 q) (ks ksc : List Nat) (src : List (Nat ⊕ Nat)) (hr : vx_Run p l e R s m args below meth c H locs cells slots mc ms (F0 m pc ls st0) rest (fun _ _ _ => False) (gX D E w1 (gA q ksc)) (gA q ksc))
    (hP : va_P D vwCl ws H) (hS : va_S A0 H0 H locs) (hA : ∀ k ∈ ksc, A0 (q k)) (hks : ws.map Prod.fst = ks.map q) (hkc : (ksc.all (fun k => decide (k < n9))) = true) (hk : gKeep n9 ks ksc src = true) (he : ws'.map some = gSrc src ws w1)
    (kx : ∀ (ce : Cell) (q9 : Addr) (H1 : Heap) (locs1 : List Loc), va_P D vwCl ws' H1 → va_S A0 H0 H1 locs1 → H1[q9]? = some ce → ce.vm = .none → s.vm.findClass E = some ce.cls → vx_W p l e R s m args below meth c H1 locs1 (cells + mc) (slots + ms) Q (F0 m pc ls rest) q9) : W p l e R s m args below meth c H locs cells slots Q (F0 m pc ls st0) := by
  have hA9 : ∀ x, gA q ksc x → A0 x := fun x hx => by obtain ⟨k, h1, h2⟩ := hx; rw [h2]; exact hA k h1
  intro T hT X
  rcases hr T hT X with ⟨v, st₀, t, T', L, h0, X', hL, e1, e2, hf, st⟩ | ⟨q9, st₀, t, T', L, E9, ce, h0, X', hL, e1, e2, ⟨hE, hb, hF⟩, hce, hcv, hcl, st⟩
  · exact hf.elim
  · subst hE
    obtain ⟨hz, hkp⟩ := hF
    rw [h0] at hz hkp
    obtain ⟨t2, a1, b1⟩ := kx ce q9 T'.heap (locs ++ L) (by rw [e1]; exact gJoin hq ks ksc hks hkc src hk he hP hb hkp)
      ⟨Nat.le_trans hS.1 (by rw [e1]; exact hz), fun q1 h1 h2 => by rw [e1, hkp q1 (Nat.lt_of_lt_of_le h1 hS.1) (fun z => h2 (hA9 q1 z))]; exact hS.2.1 q1 h1 h2, fun q1 hq1 => by
        rcases List.mem_append.mp hq1 with h | h
        · exact hS.2.2 q1 h
        · exact hA9 _ (hL q1 h)⟩ (by rw [e1]; exact hce) hcv hcl T' rfl X'
    exact ⟨t2, st.trans a1, b1⟩
end GR
/-- a body with a table of handlers that always returns -/
theorem g_ofWH {l : Launch} {y : MethodName} {ws ws' : List Cond} {rm : Room} {Pc : Array Value → State → Prop} {Qc : Array Value → State → Outcome → State → Prop} {mc ms : Nat} {free : Addr → Prop} {cc : ByteArray} {maxL : Nat} {ret : Option FieldType} {hh : List (Nat × Nat × Nat × Nat)}
    (hy : plainName y.cls = true) (hw : ws = Cond.codeWith y cc maxL ret hh :: ws')
    (body : ∀ p e s m args below meth c s₁, BodyLoose p l y (headSpec ws rm) cc maxL ret e s m args below meth c s₁ → c.maxLocals = maxL → Pc args s →
      W p l e (headSpec ws rm).room s m args below meth c s.heap [] 0 0 (MQ below Qc args s mc ms free) (entryFrame m args maxL)) : Met l y ws rm Pc Qc mc ms free := by
  refine MetFree.of_bodyS (code := cc) (maxLocals := maxL) (ret := ret) hy ?_ ?_
  · intro args s m h hn
    obtain ⟨m9, meth, c, hn9, h1, h2, h3, h4, -, h5, h6, -⟩ := Cond.codeWith_spec (atoms_spec (ws := ws) h _ (by rw [hw]; exact List.mem_cons_self))
    cases hn.symm.trans hn9
    exact ⟨meth, c, h1, h2, h3, h4, h5, h6⟩
  · intro p e s m args below meth c s₁ B hml hP _
    have hh0 : s₁.heap = s.heap := by rw [B.state]; rfl
    obtain ⟨t, a1, o, b1, b2, b3⟩ := body p e s m args below meth c s₁ B hml hP s₁ hh0 (Stand.of_body B)
    exact ⟨t, o, a1, b1, b2, ⟨b3.1, b3.2⟩⟩
/-! pure functions: none where the machine would throw by itself, or the fuel is spent -/
def bn {α β : Type} (o : Option α) (k : α → Option β) : Option β := match o with
  | none => none
  | some a => k a
theorem bn_some {α β : Type} {o : Option α} {k : α → Option β} {b : β} (h : bn o k = some b) : ∃ a, o = some a ∧ k a = some b := by
  cases o with
  | none => cases h
  | some a => exact ⟨a, rfl, h⟩
def bx {α β γ : Type} (o : Option (α ⊕ β)) (kx : α → Option γ) (k : β → Option γ) : Option γ := match o with
  | none => none
  | some (.inl a) => kx a
  | some (.inr b) => k b
theorem bx_some {α β γ : Type} {o : Option (α ⊕ β)} {kx : α → Option γ} {k : β → Option γ} {r : γ} (h : bx o kx k = some r) : (∃ a, o = some (.inl a) ∧ kx a = some r) ∨ ∃ b, o = some (.inr b) ∧ k b = some r := by
  cases o with
  | none => cases h
  | some z => cases z with
    | inl a => exact Or.inl ⟨a, rfl, h⟩
    | inr b => exact Or.inr ⟨b, rfl, h⟩
def gd {β : Type} (b : Bool) (o : Option β) : Option β := match b with
  | true => o
  | false => none
theorem gd_some {β : Type} {b : Bool} {o : Option β} {r : β} (h : gd b o = some r) : b = true ∧ o = some r := by
  cases b with
  | true => exact ⟨rfl, h⟩
  | false => cases h
def inb (i : Int32) (n : Nat) : Bool := decide (0 ≤ i.toInt ∧ i.toInt < n)
theorem inb_in {i : Int32} {n : Nat} (h : inb i n = true) : vp_in i n := vp_in_iff.mpr (of_decide_eq_true h)
def nz (y : Int32) : Bool := decide (¬ y = 0)
theorem nz_ne {y : Int32} (h : nz y = true) : ¬ y = 0 := of_decide_eq_true h
def nzL (y : Int64) : Bool := decide (¬ y = 0)
theorem nzL_ne {y : Int64} (h : nzL y = true) : ¬ y = 0 := of_decide_eq_true h
def isB (v : Int32) : Bool := decide (v = 0 ∨ v = 1)
theorem isB_nar {v : Int32} (h : isB v = true) : narrow .boolean (.int v) = .int v := by
  rcases of_decide_eq_true h with h | h <;> subst h <;> rfl
def nonan (r : UInt64) : Bool := decide (r &&& 0x7fffffffffffffff ≤ 0x7ff0000000000000)
theorem nonan_n {r : UInt64} (h : nonan r = true) : vf_n64 r := by
  show r &&& 0x7fffffffffffffff ≤ 0x7ff0000000000000
  exact of_decide_eq_true h
def gEn : Nat → String
  | 0 => "java/lang/IndexOutOfBoundsException"
  | 1 => "java/lang/IllegalArgumentException"
  | _ => "java/lang/IllegalStateException"
theorem gSub {q : Nat → Nat} {ks ksc : List Nat} (h : ksc.all (fun k => ks.contains k) = true) : ∀ k ∈ ksc, gA q ks (q k) := fun k hk => ⟨k, by simpa using List.all_eq_true.mp h k hk, rfl⟩
theorem gMono {q : Nat → Nat} {ks ksc : List Nat} (h : ksc.all (fun k => ks.contains k) = true) : ∀ a, gA q ksc a → gA q ks a := fun a ha => by
  obtain ⟨k, h1, h2⟩ := ha
  exact h2 ▸ gSub h k h1
section GR0
variable {p : Program} {l : Launch} {e : Env} {R : Room} {s : State} {m : MethodId} {args : Array Value} {below : List Frame} {meth : Method} {c : Code} {H : Heap} {locs : List Loc} {cells slots : Nat} {Q : State → Prop}
variable {pc n9 : Nat} {ls : Array Slot} {rest st0 st1 : List Value} {a : Array Value} {A0 : Nat → Prop} {H0 : Heap} {D : va_G} {q : Nat → Nat}
theorem g_call0 {res : Option Value} {ws w1 ws' : va_W} (hq : gInj n9 q) (ks ksc : List Nat) (src : List (Nat ⊕ Nat)) (hr : va_Run p l e R s m args below meth c H locs cells slots 0 0 (F0 m pc ls st0) rest (gQ D res w1 (gA q ksc) a) (gA q ksc))
    (hP : va_P D vwCl ws H) (hS : va_S A0 H0 H locs) (hA : ∀ k ∈ ksc, A0 (q k)) (hks : ws.map Prod.fst = ks.map q) (hkc : (ksc.all (fun k => decide (k < n9))) = true) (hk : gKeep n9 ks ksc src = true) (he : ws'.map some = gSrc src ws w1) (hst : res.toList ++ rest = st1)
    (kk : ∀ (H1 : Heap) (locs1 : List Loc), va_P D vwCl ws' H1 → va_S A0 H0 H1 locs1 → W p l e R s m args below meth c H1 locs1 cells slots Q (F0 m (pc + 3) ls st1)) : W p l e R s m args below meth c H locs cells slots Q (F0 m pc ls st0) :=
  g_call hq ks ksc src hr hP hS hA hks hkc hk he hst kk
theorem gA_sh (kc : List Nat) : ∀ x, gA (sh q) kc x → gA q (kc.map (fun k => 14 + k)) x := fun x hx => by
  obtain ⟨k, h1, h2⟩ := hx
  exact ⟨14 + k, List.mem_map.mpr ⟨k, h1, rfl⟩, h2⟩
theorem g_callS0 {res : Option Value} {ws w1 ws' : va_W} {qc : Nat → Nat} {kc : List Nat} (hq : gInj n9 q) (ks ksc : List Nat) (hsub : ∀ x, gA qc kc x → gA q ksc x) (src : List (Nat ⊕ Nat)) (hr : va_Run p l e R s m args below meth c H locs cells slots 0 0 (F0 m pc ls st0) rest (gQ D res w1 (gA qc kc) a) (gA qc kc))
    (hP : va_P D vwCl ws H) (hS : va_S A0 H0 H locs) (hA : ∀ k ∈ ksc, A0 (q k)) (hks : ws.map Prod.fst = ks.map q) (hkc : (ksc.all (fun k => decide (k < n9))) = true) (hk : gKeep n9 ks ksc src = true) (he : ws'.map some = gSrc src ws w1) (hst : res.toList ++ rest = st1)
    (kk : ∀ (H1 : Heap) (locs1 : List Loc), va_P D vwCl ws' H1 → va_S A0 H0 H1 locs1 → W p l e R s m args below meth c H1 locs1 cells slots Q (F0 m (pc + 3) ls st1)) : W p l e R s m args below meth c H locs cells slots Q (F0 m pc ls st0) :=
  g_callS hq ks ksc hsub src hr hP hS hA hks hkc hk he hst kk
end GR0
def gB (cls : String) : List Cond := [.castable cls cls, .declares (Bundle.initS "java/lang/RuntimeException"), .declares (Bundle.initS "java/lang/Exception"), .declares (Bundle.initS Bundle.tN)]
theorem gB_ok {sa : Nat → Nat} {args : Array Value} {s : State} (h : gXs sa s) {cls : String} (hc : cls ∈ gE3) : ∀ w ∈ gB cls, w.before args s = true :=
  vx_c (va_Nw.use rfl (h.2.1 cls hc)) (vx_c (va_Nw.use rfl (h.2.2.2 _ (by decide +kernel))) (vx_c (va_Nw.use rfl (h.2.2.2 _ (by decide +kernel))) (vx_c (va_Nw.use rfl (h.2.2.2 _ (by decide +kernel))) vx_n)))
