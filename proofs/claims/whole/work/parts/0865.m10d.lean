theorem goesB3 {α : Type} (N : Nat) (Mh Mn Mm : Int32) (k : Int32 × Int32 → Option α) : bn (fX9_goesWell N Mh Mn Mm (3 : Int32)) k = k ((0 : Int32), (3 : Int32)) := rfl
theorem ag_necklaceNumber {n : Nat} {Ta Mt : Nat → Int32} (hok : ∀ L m, 1 ≤ L → L ≤ 4 → 1 ≤ m → m ≤ 8 → WalkOk L m) (h : Two n Ta Mt) (Wg Wz Ww Wr : Int32) (Oa : Nat → Int64) (Mh Mm : Int32) (Mw : Nat → Int32) (p1 p2 p3 : Int32) : ∃ c wg wz ww wr oa r mw, fL_necklaceNumber 100000 (nI n) Ta Wg Wz Ww Wr Oa p1 p2 p3 = some (c, wg, wz, ww, wr, oa) ∧ fX9_necklaceNumber 100000 Mh (nI n) Mm Mt Mw p1 p2 p3 = some (r, c, mw) ∧ (c = 0 → oa 0 = r.toInt64) := by
  have hn := h.le
  have hN : 100 ≤ 100000 := by decide
  obtain ⟨w, hT, hM⟩ := h.rp
  unfold fL_necklaceNumber fX8_necklaceNumber fX9_necklaceNumber
  rcases part_cases 100000 p1 p2 n hn with ⟨a, b, rfl, rfl, hab, hb, g1, g2⟩ | ⟨g1, g2⟩
  · rw [g1, g2, bx_r, bn_s, if_neg n1_0]
    rcases arg_cases 100000 p3 (1 : Int32) (4 : Int32) 1 4 rfl rfl (by decide) with ⟨L, rfl, hL1, hL, k1, k2⟩ | ⟨k1, k2⟩
    · rw [k1, k2, bx_r, bn_s, if_neg n1_0, q_sub (by omega)]
      have bad : ∀ x : Int32, x = 0 → (bn (some x) (fun v31 => if v31 = 0 then fX9_necklaceNumber_J42 100000 (nI n) Mm Mt Mh Mw (nI a) (nI b) (nI L) (3 : Int32) else fX9_necklaceNumber_J42 100000 (nI n) Mm Mt Mh Mw (nI a) (nI b) (nI L) (0 : Int32))) = some ((0 : Int32), (3 : Int32), Mw) := by
        intro x hx
        rw [bn_s, if_pos hx]
        unfold fX9_necklaceNumber_J42
        rw [goesB3, if_pos rfl]
      by_cases h8 : 8 < b - a
      · have hof : fX9_isOf 100000 Mh (nI n) Mm Mt (nI a) (nI b) (nI L) = some (pI (False ∧ ∀ k, a ≤ k → k < b → w k < L)) := by
          unfold fX9_isOf fX9_isOf_J13
          rw [q_sub (by omega), if_pos (by rw [q_8, nI_ltI (by omega) (by omega)]; exact h8)]
          have := isOf_H (N := 100000) (L := L) (Mh := Mh) (Mn := nI n) (Mm := Mm) hM hb (by omega) (b - a) a 100000 False (by omega) (by omega)
          rw [pI_f id] at this
          exact this
        rw [if_pos (by rw [q_8, nI_ltI (by omega) (by omega)]; exact h8), hof, bad _ (pI_z.mpr (fun hh => hh.1))]
        exact ⟨_, _, _, _, _, _, _, _, rfl, rfl, fun hh => absurd hh (by decide)⟩
      · have hof : fX9_isOf 100000 Mh (nI n) Mm Mt (nI a) (nI b) (nI L) = some (pI (True ∧ ∀ k, a ≤ k → k < b → w k < L)) := by
          unfold fX9_isOf fX9_isOf_J13
          rw [q_sub (by omega), if_neg (by rw [q_8, nI_ltI (by omega) (by omega)]; exact h8)]
          have := isOf_H (N := 100000) (L := L) (Mh := Mh) (Mn := nI n) (Mm := Mm) hM hb (by omega) (b - a) a 100000 True (by omega) (by omega)
          rw [pI_t trivial] at this
          exact this
        obtain ⟨G, gg1, gg2, gg3⟩ := greatest_H (N := 100000) (L := L) (Tn := nI n) hT hb (b - a) a 0 100000 (by omega) (by omega) (by omega)
        have gg4 : fX2_greatestLetter 100000 (nI n) Ta (nI a) (nI b) = some (nI G) := gg1
        rw [if_neg (by rw [q_8, nI_ltI (by omega) (by omega)]; exact h8), gg4, bn_s, hof]
        by_cases hall : ∀ k, a ≤ k → k < b → w k < L
        · have hG : G < L := gg3.mpr ⟨by omega, hall⟩
          rw [if_pos ((nI_ltI (by omega) (by omega)).mpr hG), bn_s, if_neg (by rw [pI_z]; exact fun hh => hh ⟨trivial, hall⟩)]
          obtain ⟨m1, m2⟩ := lb_min hT hab hb (b - a - 1) 1 0 (by omega) (by omega) (fun t ht hh => by
            have : t = 0 := by omega
            rw [this] at hh
            exact RR_asym hh hh)
          have hnk := least_nk hT (L := L) hab hb hL1 (by omega) (by omega) hall
          have hp1 := leastC_nI (N := 100000) (Tn := nI n) hN hT hab hb
          have hp2 := leastM_nI (N := 100000) (Mh := 0) (Mn := nI n) (Mm := Mm) hN hM hab hb
          generalize lb w a (b - a) (b - a - 1) 1 0 = s at m1 m2 hnk hp1 hp2
          have hlt : ∀ k, k < b - a → (fun k => w (a + (s + k) % (b - a))) k < L := fun k hk => by
            have : (s + k) % (b - a) < b - a := Nat.mod_lt _ (by omega)
            exact hall _ (by omega) (by omega)
          have hown := pv_lt (B := L) (Nat.le_refl L) (b - a) hlt
          have hpk := pv_p8 hL1 (b - a) hlt
          have c1 := packed_H (N := 100000) (Tn := nI n) hT hab hb (by omega) m1 (fun k q1 q2 => by have := hall k q1 q2; omega) (b - a) 0 100000 (by omega) (by omega)
          have c2 := own_H (N := 100000) (L := L) (Mm := Mm) (Mh := 0) (Mw := Mw) hM hab hb (by omega) m1 (b - a) 0 100000 (by omega) (by omega)
          rw [← hpk] at c1
          generalize pv L (fun k => w (a + (s + k) % (b - a))) (b - a) = own at hnk hown hpk c1 c2
          have hQ : nkR L (b - a) own ≠ 0 := by
            rcases nkR_spec hL1 (by omega) (show 1 ≤ b - a by omega) (by omega) hown with ⟨e1, e2⟩ | ⟨e1, e2, e3⟩
            · exact absurd hnk e2
            · omega
          obtain ⟨C, w1, w2, w3, w4⟩ := walk_facts (hok L (b - a) hL1 hL (by omega) (by omega))
          have hpow := pow_small hL (show b - a ≤ 8 by omega)
          have hle := ct_mono_n (P := fun y => nkR L (b - a) y ≠ 0) (show own ≤ L ^ (b - a) by omega)
          have h8p := p8_lt hL1 (show L ≤ 8 by omega) (b - a) own
          have h8q : 8 ^ (b - a) ≤ 8 ^ 8 := Nat.pow_le_pow_right (by decide) (by omega)
          have h8r : 8 ^ 8 = 16777216 := by decide
          obtain ⟨w5, r5, c3⟩ := ahead_H (w2 := 0) (L := L) (m := b - a) (k := ct (fun y => nkR L (b - a) y ≠ 0) 0 own) (P := p8 L (b - a) own) (by omega) (by omega) (fun j hj => by
            obtain ⟨y, y1, y2, y3⟩ := ct_hit (P := fun y => nkR L (b - a) y ≠ 0) (j := j) own hj
            have := w4 y (by omega) y2
            rw [y3] at this
            exact ⟨_, _, this, p8_mono hL1 (by omega) _ _ _ y1 hown⟩) (w4 own hown hQ) (ct (fun y => nkR L (b - a) y ≠ 0) 0 own) 0 100000 0 1 (by omega) (by omega) rfl
          obtain ⟨g5, c4⟩ := numM_H (N := 100000) (n := nI n) (Mm := Mm) (Mh := 0) (Mt := Mt) hN hL1 hL (show 1 ≤ b - a by omega) (by omega) hown own 0 0 100000 Mw (by omega) (by omega)
          rw [Nat.zero_add] at c4
          have d1 : fX8_packedLeastRotation 100000 (nI n) Ta (nI a) (nI b) = some (nI (p8 L (b - a) own)) := by
            unfold fX8_packedLeastRotation
            rw [hp1, bn_s]
            exact c1
          have d2 : fX3_countAhead 100000 (nI L - 1) (nI (b - a)) 0 1 (nI (p8 L (b - a) own)) = some (nI (ct (fun y => nkR L (b - a) y ≠ 0) 0 own), w5, r5) := c3
          have d3 : (bn (fX3_begin 100000 Wg Wz Ww Wr (nI L) (nI (b - a))) fun v51 => bn (fX8_packedLeastRotation 100000 (nI n) Ta (nI a) (nI b)) fun v61 => bn (fX3_countAhead 100000 v51.1 v51.2.1 v51.2.2.1 v51.2.2.2 v61) fun v64 => (some (.inr (v64.1, v51.1, v51.2.1, v64.2.1, v64.2.2)) : Option ((Nat × Int32 × Int32 × Int32 × Int32) ⊕ (Int32 × Int32 × Int32 × Int32 × Int32)))) = some (.inr (nI (ct (fun y => nkR L (b - a) y ≠ 0) 0 own), nI L - 1, nI (b - a), w5, r5)) := by
            show (bn (fX8_packedLeastRotation 100000 (nI n) Ta (nI a) (nI b)) fun v61 => bn (fX3_countAhead 100000 (nI L - 1) (nI (b - a)) 0 1 v61) fun v64 => (some (.inr (v64.1, nI L - 1, nI (b - a), v64.2.1, v64.2.2)) : Option ((Nat × Int32 × Int32 × Int32 × Int32) ⊕ (Int32 × Int32 × Int32 × Int32 × Int32)))) = _
            rw [d1, bn_s, d2, bn_s]
          have d4 : fX9_necklaceNumber_J42 100000 (nI n) Mm Mt Mh Mw (nI a) (nI b) (nI L) (0 : Int32) = some (nI (ct (fun y => nkR L (b - a) y ≠ 0) 0 own), (0 : Int32), g5) := by
            unfold fX9_necklaceNumber_J42
            rw [goesB, if_neg i10, hp2, bn_s, q_sub (by omega)]
            refine Eq.trans c2 ?_
            exact c4
          rw [d3, d4, bx_r]
          exact ⟨_, _, _, _, _, _, _, _, rfl, rfl, fun _ => oa_1 _ _⟩
        · have hG : ¬ G < L := fun hh => hall (gg3.mp hh).2
          rw [if_neg (by rw [nI_ltI (by omega) (by omega)]; exact hG), bad _ (pI_z.mpr (fun hh => hall hh.2))]
          exact ⟨_, _, _, _, _, _, _, _, rfl, rfl, fun hh => absurd hh (by decide)⟩
    · rw [k1, k2, bn_s, if_pos n0_0]
      unfold fX9_necklaceNumber_J42
      rw [goesB2, if_pos rfl]
      exact ⟨_, _, _, _, _, _, _, _, rfl, rfl, fun hh => absurd hh (by decide)⟩
  · rw [g1, g2, bn_s, if_pos n0_0]
    unfold fX9_necklaceNumber_J42
    rw [goesB1, if_pos rfl]
    exact ⟨_, _, _, _, _, _, _, _, rfl, rfl, fun hh => absurd hh (by decide)⟩
/-! de Bruijn texts: what was in the rows before says nothing; then by the kernel, for all letters up to 8 and lengths up to 6 -/
def Ag (k : Nat) (f g : Nat → Int32) : Prop := ∀ j, j < k → f j = g j
theorem lwIn_H {N m s : Nat} {Mh Mn Mm Mh' Mn' Mm' : Int32} {f f' : Nat → Int32} (hm : m ≤ 8) (hf : Ag m f f') (k4 k4' : Int32 → Int32 → Int32 → Option Int32) (hk : ∀ x, k4 (nI m) x (nI (s + 1)) = k4' (nI m) x (nI (s + 1))) (x2 : Int32) : ∀ d k z, s + k + d = m → d < z → fX9_isLyndonWord_H12 N Mh Mn Mm f k4 z (nI m) x2 (nI s) (nI k) = fX9_isLyndonWord_H12 N Mh' Mn' Mm' f' k4' z (nI m) x2 (nI s) (nI k) := by
  have done : ∀ k, s + k ≤ m → fX9_isLyndonWord_J45 N Mh Mn Mm f k4 (nI m) x2 (nI s) (nI k) = fX9_isLyndonWord_J45 N Mh' Mn' Mm' f' k4' (nI m) x2 (nI s) (nI k) := by
    intro k hk2
    unfold fX9_isLyndonWord_J45 fX9_isLyndonWord_J80 fX9_isLyndonWord_J81
    rw [nI_1, hk, hk, nI_add]
    by_cases e : x2 = 0
    · rw [if_pos e, if_pos e]
    · rw [if_neg e, if_neg e]
      by_cases q : s + k = m
      · rw [if_pos (by rw [nI_leI (by omega) (by omega)]; omega), if_pos (by rw [nI_leI (by omega) (by omega)]; omega)]
      · rw [nI_clamp (by omega), nI_clamp (by omega), hf k (by omega), hf (s + k) (by omega)]
  intro d
  induction d with
  | zero =>
    intro k z hs hz
    obtain ⟨z, rfl⟩ : ∃ y, z = y + 1 := ⟨z - 1, by omega⟩
    show fX9_isLyndonWord_B12 N _ _ _ _ _ _ _ _ _ _ = fX9_isLyndonWord_B12 N _ _ _ _ _ _ _ _ _ _
    unfold fX9_isLyndonWord_B12
    rw [nI_add, if_pos (by rw [nI_leI (by omega) (by omega)]; omega), if_pos (by rw [nI_leI (by omega) (by omega)]; omega)]
    exact done k (by omega)
  | succ d ih =>
    intro k z hs hz
    obtain ⟨z, rfl⟩ : ∃ y, z = y + 1 := ⟨z - 1, by omega⟩
    show fX9_isLyndonWord_B12 N _ _ _ _ _ _ _ _ _ _ = fX9_isLyndonWord_B12 N _ _ _ _ _ _ _ _ _ _
    unfold fX9_isLyndonWord_B12
    rw [nI_add, nI_clamp (by omega), nI_clamp (by omega), hf k (by omega), hf (s + k) (by omega), done k (by omega), nI_1, ih (k + 1) z (by omega) (by omega)]
theorem lwOut_H {N m : Nat} {Mh Mn Mm Mh' Mn' Mm' : Int32} {f f' : Nat → Int32} (hN : 100 ≤ N) (hm : m ≤ 8) (hf : Ag m f f') : ∀ d s z x2, m ≤ s + d → s ≤ 100 → d < z → fX9_isLyndonWord_H4 N Mh Mn Mm f z (nI m) x2 (nI s) = fX9_isLyndonWord_H4 N Mh' Mn' Mm' f' z (nI m) x2 (nI s) := by
  intro d
  induction d with
  | zero =>
    intro s z x2 hs hs2 hz
    obtain ⟨z, rfl⟩ : ∃ y, z = y + 1 := ⟨z - 1, by omega⟩
    show fX9_isLyndonWord_B4 N _ _ _ _ _ _ _ _ = fX9_isLyndonWord_B4 N _ _ _ _ _ _ _ _
    unfold fX9_isLyndonWord_B4
    rw [if_pos (by rw [nI_leI (by omega) (by omega)]; omega), if_pos (by rw [nI_leI (by omega) (by omega)]; omega)]
    rfl
  | succ d ih =>
    intro s z x2 hs hs2 hz
    obtain ⟨z, rfl⟩ : ∃ y, z = y + 1 := ⟨z - 1, by omega⟩
    show fX9_isLyndonWord_B4 N _ _ _ _ _ _ _ _ = fX9_isLyndonWord_B4 N _ _ _ _ _ _ _ _
    unfold fX9_isLyndonWord_B4
    by_cases e : m ≤ s
    · rw [if_pos (by rw [nI_leI (by omega) (by omega)]; omega), if_pos (by rw [nI_leI (by omega) (by omega)]; omega)]
      rfl
    · rw [if_neg (by rw [nI_leI (by omega) (by omega)]; exact e), if_neg (by rw [nI_leI (by omega) (by omega)]; exact e), q_0]
      exact lwIn_H hm hf _ _ (fun x => ih (s + 1) z x (by omega) (by omega) (by omega)) x2 (m - s) 0 N (by omega) (by omega)
theorem lw_rel {N m : Nat} {Mh Mn Mm Mh' Mn' Mm' : Int32} {f f' : Nat → Int32} (hN : 100 ≤ N) (hm : m ≤ 8) (hf : Ag m f f') : fX9_isLyndonWord N Mh Mn Mm f (nI m) = fX9_isLyndonWord N Mh' Mn' Mm' f' (nI m) := lwOut_H hN hm hf m 1 N (1 : Int32) (by omega) (by omega) (by omega)
theorem cw_H {N m q : Nat} {Mh Mn Mm Mh' Mn' Mm' : Int32} {f f' l l' : Nat → Int32} (hm : m ≤ 8) (hq : q ≤ 8) (hf : Ag m f f') (hl : Ag q l l') : ∀ d k z, min m q ≤ k + d → k ≤ 100 → d < z → fX9_compareWords_H2 N Mh Mn Mm f l z (nI m) (nI q) (nI k) = fX9_compareWords_H2 N Mh' Mn' Mm' f' l' z (nI m) (nI q) (nI k) := by
  have le1 : ∀ k, k ≤ 100 → (nI m ≤ nI k ↔ m ≤ k) := fun k hk => nI_leI (by omega) (by omega)
  have le2 : ∀ k, k ≤ 100 → (nI q ≤ nI k ↔ q ≤ k) := fun k hk => nI_leI (by omega) (by omega)
  have done : ∀ k, k ≤ 100 → fX9_compareWords_J33 N Mh Mn Mm f l (nI m) (nI q) (nI k) = fX9_compareWords_J33 N Mh' Mn' Mm' f' l' (nI m) (nI q) (nI k) := by
    intro k hk
    unfold fX9_compareWords_J33 fX9_compareWords_J59 fX9_compareWords_J62
    by_cases e : nI m ≤ nI k
    · rw [if_pos e, if_pos e]
    · rw [if_neg e, if_neg e]
      by_cases e2 : nI q ≤ nI k
      · rw [if_pos e2, if_pos e2]
      · rw [if_neg e2, if_neg e2]
        rw [le1 k hk] at e
        rw [le2 k hk] at e2
        rw [nI_clamp (by omega), hf k (by omega), hl k (by omega)]
  intro d
  induction d with
  | zero =>
    intro k z hk hk2 hz
    obtain ⟨z, rfl⟩ : ∃ y, z = y + 1 := ⟨z - 1, by omega⟩
    show fX9_compareWords_B2 N _ _ _ _ _ _ _ _ _ = fX9_compareWords_B2 N _ _ _ _ _ _ _ _ _
    unfold fX9_compareWords_B2
    by_cases e : nI m ≤ nI k
    · rw [if_pos e, if_pos e]
      exact done k hk2
    · have e2 : nI q ≤ nI k := by
        rw [le1 k hk2] at e
        rw [le2 k hk2]
        omega
      rw [if_neg e, if_neg e, if_pos e2, if_pos e2]
      exact done k hk2
  | succ d ih =>
    intro k z hk hk2 hz
    obtain ⟨z, rfl⟩ : ∃ y, z = y + 1 := ⟨z - 1, by omega⟩
    show fX9_compareWords_B2 N _ _ _ _ _ _ _ _ _ = fX9_compareWords_B2 N _ _ _ _ _ _ _ _ _
    unfold fX9_compareWords_B2
    rw [done k hk2]
    by_cases e : nI m ≤ nI k
    · rw [if_pos e, if_pos e]
    · rw [if_neg e, if_neg e]
      by_cases e2 : nI q ≤ nI k
      · rw [if_pos e2, if_pos e2]
      · rw [if_neg e2, if_neg e2]
        rw [le1 k hk2] at e
        rw [le2 k hk2] at e2
        rw [nI_clamp (by omega), hf k (by omega), hl k (by omega), nI_1, ih (k + 1) z (by omega) (by omega) (by omega)]
theorem cw_rel {N m q : Nat} {Mh Mn Mm Mh' Mn' Mm' : Int32} {f f' l l' : Nat → Int32} (hN : 100 ≤ N) (hm : m ≤ 8) (hq : q ≤ 8) (hf : Ag m f f') (hl : Ag q l l') : fX9_compareWords N Mh Mn Mm f l (nI m) (nI q) = fX9_compareWords N Mh' Mn' Mm' f' l' (nI m) (nI q) := cw_H hm hq hf hl 8 0 N (by omega) (by omega) (by omega)
/-- two runs that search the next word: they end alike -/
def OR3 (o o' : Option (Int32 × (Nat → Int32) × (Nat → Int32))) : Prop := (o = none ∧ o' = none) ∨ ∃ b w l w' l', o = some (nI b, w, l) ∧ o' = some (nI b, w', l') ∧ b ≤ 8 ∧ Ag b l l'
theorem lay_two {N L m x : Nat} {Mh Mn Mm Mh' Mn' Mm' : Int32} (hN : 100 ≤ N) (hL : 1 ≤ L) (hL8 : L ≤ 8) (hm : m ≤ 8) (hx : x < 2 ^ 31) (f f' : Nat → Int32) : ∃ g g', fX9_layWord N Mh Mn Mm f (nI x) (nI L) (nI m) = some g ∧ fX9_layWord N Mh' Mn' Mm' f' (nI x) (nI L) (nI m) = some g' ∧ Ag m g g' := by
  obtain ⟨g, g1, g2⟩ := layW_nI hN hL hL8 hm hx Mh Mn Mm f
  obtain ⟨g', g3, g4⟩ := layW_nI hN hL hL8 hm hx Mh' Mn' Mm' f'
  exact ⟨g, g', g1, g3, fun j hj => by rw [g2 j hj, g4 j hj]⟩
theorem cp_H {N b : Nat} {Mh Mn Mm Mh' Mn' Mm' : Int32} {w w' : Nat → Int32} (hb : b ≤ 8) (hw : Ag b w w') : ∀ d k z (l l' : Nat → Int32), k + d = b → d < z → Ag k l l' → ∃ l2 l2', fX9_nextLyndon_H120 N Mh Mn Mm z w l (nI b) (nI k) = some (nI b, w, l2) ∧ fX9_nextLyndon_H120 N Mh' Mn' Mm' z w' l' (nI b) (nI k) = some (nI b, w', l2') ∧ Ag b l2 l2' := by
  intro d
  induction d with
  | zero =>
    intro k z l l' hk hz hl
    obtain ⟨z, rfl⟩ : ∃ y, z = y + 1 := ⟨z - 1, by omega⟩
    have : k = b := by omega
    subst this
    refine ⟨l, l', ?_, ?_, hl⟩
    · show fX9_nextLyndon_B120 N _ _ _ _ _ _ _ _ = _
      unfold fX9_nextLyndon_B120
      rw [if_pos (Int32.le_refl _)]
      rfl
    · show fX9_nextLyndon_B120 N _ _ _ _ _ _ _ _ = _
      unfold fX9_nextLyndon_B120
      rw [if_pos (Int32.le_refl _)]
      rfl
  | succ d ih =>
    intro k z l l' hk hz hl
    obtain ⟨z, rfl⟩ : ∃ y, z = y + 1 := ⟨z - 1, by omega⟩
    obtain ⟨l2, l2', h1, h2, h3⟩ := ih (k + 1) z (upd l k (w k)) (upd l' k (w' k)) (by omega) (by omega) (fun j hj => by
      by_cases e : j = k
      · rw [e, pk_us, pk_us]; exact hw k (by omega)
      · rw [pk_un e, pk_un e]; exact hl j (by omega))
    refine ⟨l2, l2', ?_, ?_, h3⟩
    · show fX9_nextLyndon_B120 N _ _ _ _ _ _ _ _ = _
      unfold fX9_nextLyndon_B120
      rw [if_neg (by rw [nI_leI (by omega) (by omega)]; omega), q_inb8 (by omega), gd_t, gd_t, nI_clamp (by omega), nI_1]
      exact h1
    · show fX9_nextLyndon_B120 N _ _ _ _ _ _ _ _ = _
      unfold fX9_nextLyndon_B120
      rw [if_neg (by rw [nI_leI (by omega) (by omega)]; omega), q_inb8 (by omega), gd_t, gd_t, nI_clamp (by omega), nI_1]
      exact h2
theorem pow_88 {L m : Nat} (hL : L ≤ 8) (hm : m ≤ 8) : L ^ m ≤ 16777216 := by
  have h1 : L ^ m ≤ 8 ^ m := Nat.pow_le_pow_left hL m
  have h2 : 8 ^ m ≤ 8 ^ 8 := Nat.pow_le_pow_right (by decide) hm
  have h3 : 8 ^ 8 = 16777216 := by decide
  omega
theorem nx18_H {N L M q m : Nat} {Mh Mn Mm Mh' Mn' Mm' : Int32} (hN : 100 ≤ N) (hL : 1 ≤ L) (hL8 : L ≤ 8) (hM : M ≤ 8) (hm1 : 1 ≤ m) (hm8 : m ≤ M) (hq : q ≤ 8) (k9 k9' : (Nat → Int32) → (Nat → Int32) → Int32 → Int32 → Int32 → Int32 → Int32 → Int32 → Option (Int32 × (Nat → Int32) × (Nat → Int32))) (hk : ∀ w w' l l' um un, um ≤ 8 → un < 2 ^ 31 → Ag q l l' → OR3 (k9 w l (nI L) (nI M) (nI q) (nI um) (nI un) (nI (m + 1))) (k9' w' l' (nI L) (nI M) (nI q) (nI um) (nI un) (nI (m + 1)))) : ∀ d x z w w' l l' um un, L ^ m ≤ x + d → x < 2 ^ 30 → um ≤ 8 → un < 2 ^ 31 → Ag q l l' → OR3 (fX9_nextLyndon_H18 N Mh Mn Mm k9 z w l (nI L) (nI M) (nI q) (nI um) (nI un) (nI m) (nI x)) (fX9_nextLyndon_H18 N Mh' Mn' Mm' k9' z w' l' (nI L) (nI M) (nI q) (nI um) (nI un) (nI m) (nI x)) := by
  have hpow := pow_88 hL8 (show m ≤ 8 by omega)
  have hmod : M % m < m := Nat.mod_lt _ (by omega)
  intro d
  induction d with
  | zero =>
    intro x z w w' l l' um un hx hx2 hbm hbn hl
    cases z with
    | zero => exact Or.inl ⟨rfl, rfl⟩
    | succ z =>
      show OR3 (fX9_nextLyndon_B18 N _ _ _ _ _ _ _ _ _ _ _ _ _ _) (fX9_nextLyndon_B18 N _ _ _ _ _ _ _ _ _ _ _ _ _ _)
      unfold fX9_nextLyndon_B18 fX9_nextLyndon_J102
      rw [q_nz (by omega) (by omega), gd_t, gd_t, pk_rem (by omega) (by omega) (by omega), powM_nI hN (by omega), bn_s, bn_s, if_pos (show nI (L ^ m) ≤ nI x by rw [nI_leI (by omega) (by omega)]; omega), if_pos (show nI (L ^ m) ≤ nI x by rw [nI_leI (by omega) (by omega)]; omega), nI_1]
      by_cases e : nI (M % m) = 0
      · rw [if_pos e, if_pos e]; exact hk w w' l l' um un hbm hbn hl
      · rw [if_neg e, if_neg e]; exact hk w w' l l' um un hbm hbn hl
  | succ d ih =>
    intro x z w w' l l' um un hx hx2 hbm hbn hl
    cases z with
    | zero => exact Or.inl ⟨rfl, rfl⟩
    | succ z =>
      show OR3 (fX9_nextLyndon_B18 N _ _ _ _ _ _ _ _ _ _ _ _ _ _) (fX9_nextLyndon_B18 N _ _ _ _ _ _ _ _ _ _ _ _ _ _)
      unfold fX9_nextLyndon_B18 fX9_nextLyndon_J102 fX9_nextLyndon_J68 fX9_nextLyndon_J88 fX9_nextLyndon_J96
      rw [q_nz (by omega) (by omega), gd_t, gd_t, pk_rem (by omega) (by omega) (by omega), powM_nI hN (by omega), bn_s, bn_s, nI_1, nI_1]
      by_cases e : nI (M % m) = 0
      · rw [if_pos e, if_pos e]
        by_cases e2 : L ^ m ≤ x
        · rw [if_pos (show nI (L ^ m) ≤ nI x by rw [nI_leI (by omega) (by omega)]; omega), if_pos (show nI (L ^ m) ≤ nI x by rw [nI_leI (by omega) (by omega)]; omega)]
          exact hk w w' l l' um un hbm hbn hl
        · obtain ⟨g, g', g1, g2, g3⟩ := lay_two (Mh := Mh) (Mn := Mn) (Mm := Mm) (Mh' := Mh') (Mn' := Mn') (Mm' := Mm') hN hL hL8 (show m ≤ 8 by omega) (show x < 2 ^ 31 by omega) w w'
          have next : ∀ um un, um ≤ 8 → un < 2 ^ 31 → OR3 (fX9_nextLyndon_H18 N Mh Mn Mm k9 z g l (nI L) (nI M) (nI q) (nI um) (nI un) (nI m) (nI (x + 1))) (fX9_nextLyndon_H18 N Mh' Mn' Mm' k9' z g' l' (nI L) (nI M) (nI q) (nI um) (nI un) (nI m) (nI (x + 1))) := fun um un h1 h2 => ih (x + 1) z g g' l l' um un (by omega) (by omega) h1 h2 hl
          rw [if_neg (show ¬ nI (L ^ m) ≤ nI x by rw [nI_leI (by omega) (by omega)]; omega), if_neg (show ¬ nI (L ^ m) ≤ nI x by rw [nI_leI (by omega) (by omega)]; omega), g1, g2, bn_s, bn_s, lw_rel (Mh := Mh) (Mn := Mn) (Mm := Mm) (Mh' := Mh') (Mn' := Mn') (Mm' := Mm') hN (show m ≤ 8 by omega) g3, cw_rel (Mh := Mh) (Mn := Mn) (Mm := Mm) (Mh' := Mh') (Mn' := Mn') (Mm' := Mm') hN (show m ≤ 8 by omega) hq g3 hl]
          have last : OR3 (if nI um = 0 then fX9_nextLyndon_H18 N Mh Mn Mm k9 z g l (nI L) (nI M) (nI q) (nI m) (nI x) (nI m) (nI (x + 1)) else bn (fX9_isBelow N (nI x) (nI m) (nI un) (nI um) (nI L)) fun v82 => if v82 = 0 then fX9_nextLyndon_H18 N Mh Mn Mm k9 z g l (nI L) (nI M) (nI q) (nI um) (nI un) (nI m) (nI (x + 1)) else fX9_nextLyndon_H18 N Mh Mn Mm k9 z g l (nI L) (nI M) (nI q) (nI m) (nI x) (nI m) (nI (x + 1))) (if nI um = 0 then fX9_nextLyndon_H18 N Mh' Mn' Mm' k9' z g' l' (nI L) (nI M) (nI q) (nI m) (nI x) (nI m) (nI (x + 1)) else bn (fX9_isBelow N (nI x) (nI m) (nI un) (nI um) (nI L)) fun v82 => if v82 = 0 then fX9_nextLyndon_H18 N Mh' Mn' Mm' k9' z g' l' (nI L) (nI M) (nI q) (nI um) (nI un) (nI m) (nI (x + 1)) else fX9_nextLyndon_H18 N Mh' Mn' Mm' k9' z g' l' (nI L) (nI M) (nI q) (nI m) (nI x) (nI m) (nI (x + 1))) := by
            by_cases c1 : nI um = 0
            · rw [if_pos c1, if_pos c1]; exact next m x (by omega) (by omega)
            · rw [if_neg c1, if_neg c1]
              cases fX9_isBelow N (nI x) (nI m) (nI un) (nI um) (nI L) with
              | none => exact Or.inl ⟨rfl, rfl⟩
              | some v =>
                rw [bn_s, bn_s]
                by_cases c2 : v = 0
                · rw [if_pos c2, if_pos c2]; exact next um un hbm hbn
                · rw [if_neg c2, if_neg c2]; exact next m x (by omega) (by omega)
          cases fX9_isLyndonWord N Mh' Mn' Mm' g' (nI m) with
          | none => exact Or.inl ⟨rfl, rfl⟩
          | some v =>
            rw [bn_s, bn_s]
            by_cases c2 : v = 0
            · rw [if_pos c2, if_pos c2]; exact next um un hbm hbn
            · rw [if_neg c2, if_neg c2]
              by_cases c3 : nI q = 0
              · rw [if_pos c3, if_pos c3]; exact last
              · rw [if_neg c3, if_neg c3]
                cases fX9_compareWords N Mh' Mn' Mm' g' l' (nI m) (nI q) with
                | none => exact Or.inl ⟨rfl, rfl⟩
                | some u =>
                  rw [bn_s, bn_s]
                  by_cases c4 : u ≤ 0
                  · rw [if_pos c4, if_pos c4]; exact next um un hbm hbn
                  · rw [if_neg c4, if_neg c4]; exact last
      · rw [if_neg e, if_neg e]
        exact hk w w' l l' um un hbm hbn hl
theorem nx9_H {N L M q : Nat} {Mh Mn Mm Mh' Mn' Mm' : Int32} (hN : 100 ≤ N) (hL : 1 ≤ L) (hL8 : L ≤ 8) (hM : M ≤ 8) (hq : q ≤ 8) : ∀ d m z w w' l l' um un, m + d = M + 1 → 1 ≤ m → um ≤ 8 → un < 2 ^ 31 → Ag q l l' → OR3 (fX9_nextLyndon_H9 N Mh Mn Mm z w l (nI L) (nI M) (nI q) (nI um) (nI un) (nI m)) (fX9_nextLyndon_H9 N Mh' Mn' Mm' z w' l' (nI L) (nI M) (nI q) (nI um) (nI un) (nI m)) := by
  intro d
  induction d with
  | zero =>
    intro m z w w' l l' um un hm hm1 hum hun hl
    cases z with
    | zero => exact Or.inl ⟨rfl, rfl⟩
    | succ z =>
      obtain ⟨g, g', g1, g2, g3⟩ := lay_two (Mh := Mh) (Mn := Mn) (Mm := Mm) (Mh' := Mh') (Mn' := Mn') (Mm' := Mm') hN hL hL8 hum hun w w'
      obtain ⟨l2, l2', h1, h2, h3⟩ := cp_H (N := N) (Mh := Mh) (Mn := Mn) (Mm := Mm) (Mh' := Mh') (Mn' := Mn') (Mm' := Mm') hum g3 um 0 N l l' (by omega) (by omega) (fun j hj => by omega)
      refine Or.inr ⟨um, g, l2, g', l2', ?_, ?_, hum, h3⟩
      · show fX9_nextLyndon_B9 N _ _ _ _ _ _ _ _ _ _ _ _ = _
        unfold fX9_nextLyndon_B9 fX9_nextLyndon_J108
        rw [if_pos (by rw [nI_ltI (by omega) (by omega)]; omega), g1, bn_s]
        exact h1
      · show fX9_nextLyndon_B9 N _ _ _ _ _ _ _ _ _ _ _ _ = _
        unfold fX9_nextLyndon_B9 fX9_nextLyndon_J108
        rw [if_pos (by rw [nI_ltI (by omega) (by omega)]; omega), g2, bn_s]
        exact h2
  | succ d ih =>
    intro m z w w' l l' um un hm hm1 hum hun hl
    cases z with
    | zero => exact Or.inl ⟨rfl, rfl⟩
    | succ z =>
      have hpow := pow_88 hL8 (show m ≤ 8 by omega)
      show OR3 (fX9_nextLyndon_B9 N _ _ _ _ _ _ _ _ _ _ _ _) (fX9_nextLyndon_B9 N _ _ _ _ _ _ _ _ _ _ _ _)
      unfold fX9_nextLyndon_B9
      have hc : ¬ nI M < nI m := by rw [nI_ltI (by omega) (by omega)]; omega
      rw [if_neg hc, if_neg hc, q_0]
      exact nx18_H hN hL hL8 hM hm1 (by omega) hq _ _ (fun w w' l l' um un a1 a2 a3 => ih (m + 1) z w w' l l' um un (by omega) (by omega) a1 a2 a3) (L ^ m) 0 N w w' l l' um un (by omega) (by omega) hum hun hl
theorem nx_rel {N L M q : Nat} {Mh Mn Mm Mh' Mn' Mm' : Int32} (hN : 100 ≤ N) (hL : 1 ≤ L) (hL8 : L ≤ 8) (hM1 : 1 ≤ M) (hM : M ≤ 8) (hq : q ≤ 8) {w w' l l' : Nat → Int32} (hl : Ag q l l') : OR3 (fX9_nextLyndon N Mh Mn Mm w l (nI L) (nI M) (nI q)) (fX9_nextLyndon N Mh' Mn' Mm' w' l' (nI L) (nI M) (nI q)) :=
  nx9_H hN hL hL8 hM hq M 1 N w w' l l' 0 0 (by omega) (by omega) (by omega) (by omega) hl
/-- two runs of the whole loading, on the reference's side -/
def OR6 (o o' : Option (Int32 × Int32 × Int32 × (Nat → Int32) × (Nat → Int32) × (Nat → Int32))) : Prop := (o = none ∧ o' = none) ∨ ∃ r c t f w l f' w' l', o = some (r, c, nI t, f, w, l) ∧ o' = some (r, c, nI t, f', w', l') ∧ t ≤ 64 ∧ Ag t f f'
theorem db42_H {N b : Nat} {Mm Mm' Mh x1 x2 : Int32} {w w' l l' : Nat → Int32} (hb : b ≤ 8) (hl : Ag b l l') (k35 k35' : Int32 → Int32 → (Nat → Int32) → (Nat → Int32) → (Nat → Int32) → Int32 → Int32 → Int32 → Option (Int32 × Int32 × Int32 × (Nat → Int32) × (Nat → Int32) × (Nat → Int32))) (hk : ∀ t f f', t ≤ 64 → Ag t f f' → OR6 (fX9_loadDeBruijn_J80 N Mm k35 Mh (nI t) f w l x1 x2 (nI b)) (fX9_loadDeBruijn_J80 N Mm' k35' Mh (nI t) f' w' l' x1 x2 (nI b))) : ∀ d k z t f f', k + d = b → d < z → t ≤ 64 → Ag t f f' → OR6 (fX9_loadDeBruijn_H42 N Mm k35 z Mh (nI t) f w l x1 x2 (nI b) (nI k)) (fX9_loadDeBruijn_H42 N Mm' k35' z Mh (nI t) f' w' l' x1 x2 (nI b) (nI k)) := by
  intro d
  induction d with
  | zero =>
    intro k z t f f' hk2 hz ht hf
    obtain ⟨z, rfl⟩ : ∃ y, z = y + 1 := ⟨z - 1, by omega⟩
    have hc : nI b ≤ nI k := by rw [nI_leI (by omega) (by omega)]; omega
    show OR6 (fX9_loadDeBruijn_B42 N _ _ _ _ _ _ _ _ _ _ _ _) (fX9_loadDeBruijn_B42 N _ _ _ _ _ _ _ _ _ _ _ _)
    unfold fX9_loadDeBruijn_B42
    rw [if_pos hc, if_pos hc]
    exact hk t f f' ht hf
  | succ d ih =>
    intro k z t f f' hk2 hz ht hf
    obtain ⟨z, rfl⟩ : ∃ y, z = y + 1 := ⟨z - 1, by omega⟩
    have hc : ¬ nI b ≤ nI k := by rw [nI_leI (by omega) (by omega)]; omega
    show OR6 (fX9_loadDeBruijn_B42 N _ _ _ _ _ _ _ _ _ _ _ _) (fX9_loadDeBruijn_B42 N _ _ _ _ _ _ _ _ _ _ _ _)
    unfold fX9_loadDeBruijn_B42
    rw [if_neg hc, if_neg hc, q_inb8 (by omega), gd_t, gd_t]
    by_cases e : t < 64
    · rw [q_inb' e, gd_t, gd_t, nI_clamp (by omega), nI_clamp (by omega), hl k (by omega), nI_1, nI_1]
      exact ih (k + 1) z (t + 1) _ _ (by omega) (by omega) (by omega) (fun j hj => by
        by_cases e2 : j = t
        · rw [e2, pk_us, pk_us]
        · rw [pk_un e2, pk_un e2]; exact hf j (by omega))
    · have : inb (nI t) 64 = false := by
        refine decide_eq_false ?_
        rw [nI_toInt (by omega)]
        omega
      rw [this]
      exact Or.inl ⟨rfl, rfl⟩
theorem db35_H {N L M : Nat} {Mm Mm' Mh : Int32} (hN : 100 ≤ N) (hL : 1 ≤ L) (hL8 : L ≤ 8) (hM1 : 1 ≤ M) (hM : M ≤ 8) : ∀ z t b f f' w w' l l', t ≤ 64 → b ≤ 8 → Ag t f f' → Ag b l l' → OR6 (fX9_loadDeBruijn_H35 N Mm z Mh (nI t) f w l (nI L) (nI M) (nI b)) (fX9_loadDeBruijn_H35 N Mm' z Mh (nI t) f' w' l' (nI L) (nI M) (nI b)) := by
  intro z
  induction z with
  | zero => intro t b f f' w w' l l' ht hb hf hl; exact Or.inl ⟨rfl, rfl⟩
  | succ z ih =>
    intro t b f f' w w' l l' ht hb hf hl
    show OR6 (fX9_loadDeBruijn_B35 N _ _ _ _ _ _ _ _ _ _) (fX9_loadDeBruijn_B35 N _ _ _ _ _ _ _ _ _ _)
    unfold fX9_loadDeBruijn_B35
    by_cases e : nI b ≤ 0
    · rw [if_pos e, if_pos e]
      exact Or.inr ⟨_, _, t, f, w, l, f', w', l', rfl, rfl, ht, hf⟩
    · rw [if_neg e, if_neg e, q_0]
      refine db42_H hb hl _ _ (fun t f f' ht hf => ?_) b 0 N t f f' (by omega) (by omega) ht hf
      unfold fX9_loadDeBruijn_J80
      rcases nx_rel (Mh := Mh) (Mn := nI t) (Mm := Mm) (Mh' := Mh) (Mn' := nI t) (Mm' := Mm') (w := w) (w' := w') hN hL hL8 hM1 hM hb hl with ⟨h1, h2⟩ | ⟨b2, w2, l2, w3, l3, h1, h2, h3, h4⟩
      · rw [h1, h2]; exact Or.inl ⟨rfl, rfl⟩
      · rw [h1, h2, bn_s, bn_s]
        exact ih t b2 f f' w2 w3 l2 l3 ht h3 hf h4
theorem dbM_rel {N L M : Nat} {Mh Mn Mm Mh' Mn' Mm' : Int32} (hN : 100 ≤ N) (hL : 1 ≤ L) (hL8 : L ≤ 8) (hM1 : 1 ≤ M) (hM : M ≤ 8) (f f' w w' l l' : Nat → Int32) : OR6 (fX9_loadDeBruijn_J14 N Mm Mh Mn f w l (nI L) (nI M) (0 : Int32)) (fX9_loadDeBruijn_J14 N Mm' Mh' Mn' f' w' l' (nI L) (nI M) (0 : Int32)) := by
  unfold fX9_loadDeBruijn_J14
  rw [goesB, goesB, if_neg i10, if_neg i10]
  rcases nx_rel (q := 0) (Mh := (0 : Int32)) (Mn := (0 : Int32)) (Mm := Mm) (Mh' := (0 : Int32)) (Mn' := (0 : Int32)) (Mm' := Mm') (w := w) (w' := w') (l := l) (l' := l') hN hL hL8 hM1 hM (by omega) (fun j hj => by omega) with ⟨h1, h2⟩ | ⟨b2, w2, l2, w3, l3, h1, h2, h3, h4⟩
  · have e1 : fX9_nextLyndon N (0 : Int32) (0 : Int32) Mm w l (nI L) (nI M) (0 : Int32) = none := h1
    have e2 : fX9_nextLyndon N (0 : Int32) (0 : Int32) Mm' w' l' (nI L) (nI M) (0 : Int32) = none := h2
    rw [e1, e2]; exact Or.inl ⟨rfl, rfl⟩
  · have e1 : fX9_nextLyndon N (0 : Int32) (0 : Int32) Mm w l (nI L) (nI M) (0 : Int32) = some (nI b2, w2, l2) := h1
    have e2 : fX9_nextLyndon N (0 : Int32) (0 : Int32) Mm' w' l' (nI L) (nI M) (0 : Int32) = some (nI b2, w3, l3) := h2
    rw [e1, e2, bn_s, bn_s]
    exact db35_H hN hL hL8 hM1 hM N 0 b2 f f' w2 w3 l2 l3 (by omega) h3 (fun j hj => by omega) h4
/-! the program's side -/
theorem push_rel {N t : Nat} {v : Int32} {f f' : Nat → Int32} (hN : 100 ≤ N) (ht : t ≤ 64) (hf : Ag t f f') : ∃ t2 g g', fX2_push N (nI t) f v = some (nI t2, g) ∧ fX2_push N (nI t) f' v = some (nI t2, g') ∧ t2 ≤ 64 ∧ Ag t2 g g' := by
  by_cases e : t < 64
  · obtain ⟨g, g1, g2, g3, g4⟩ := push_nI (v := v) hN e f
    obtain ⟨g', g5, g6, g7, g8⟩ := push_nI (v := v) hN e f'
    refine ⟨t + 1, g, g', g1, g5, by omega, fun j hj => ?_⟩
    by_cases e2 : j = t
    · rw [e2, g2, g6]
    · rw [g3 j (by omega), g7 j (by omega)]; exact hf j (by omega)
  · have hc : (64 : Int32) ≤ nI t := by rw [q_64, nI_leI (by omega) (by omega)]; omega
    refine ⟨t, f, f', ?_, ?_, ht, hf⟩
    · unfold fX2_push fX2_open
      rw [if_pos hc]; rfl
    · unfold fX2_push fX2_open
      rw [if_pos hc]; rfl
theorem pw_rel {N : Nat} {g z0 w r : Int32} (hN : 100 ≤ N) : ∀ z t f f' x1 x2, t ≤ 64 → Ag t f f' → (fX8_pushFromWalk_H2 N g z0 w r z (nI t) f x1 x2 = none ∧ fX8_pushFromWalk_H2 N g z0 w r z (nI t) f' x1 x2 = none) ∨ ∃ t2 h h', fX8_pushFromWalk_H2 N g z0 w r z (nI t) f x1 x2 = some (nI t2, h) ∧ fX8_pushFromWalk_H2 N g z0 w r z (nI t) f' x1 x2 = some (nI t2, h') ∧ t2 ≤ 64 ∧ Ag t2 h h' := by
  intro z
  induction z with
  | zero => intro t f f' x1 x2 ht hf; exact Or.inl ⟨rfl, rfl⟩
  | succ z ih =>
    intro t f f' x1 x2 ht hf
    have hs : ∀ f, fX8_pushFromWalk_H2 N g z0 w r (z + 1) (nI t) f x1 x2 = fX8_pushFromWalk_B2 N g z0 w r (fX8_pushFromWalk_H2 N g z0 w r z) (nI t) f x1 x2 := fun f => rfl
    rw [hs, hs]
    unfold fX8_pushFromWalk_B2
    by_cases e : x1 ≤ x2
    · rw [if_pos e, if_pos e]
      exact Or.inr ⟨t, f, f', rfl, rfl, ht, hf⟩
    · rw [if_neg e, if_neg e]
      unfold fX3_letter
      rw [bn_s, bn_s]
      obtain ⟨t2, h, h', h1, h2, h3, h4⟩ := push_rel (v := (w >>> (((3 : Int32) * ((z0 - (1 : Int32)) - x2)) &&& 31)) &&& (7 : Int32)) hN ht hf
      rw [h1, h2, bn_s, bn_s]
      exact ih t2 h h' x1 (x2 + 1) h3 h4
def OR7 (o o' : Option ((Nat × Int32 × (Nat → Int32) × Int32 × Int32 × Int32 × Int32) ⊕ (Int32 × Int32 × (Nat → Int32) × Int32 × Int32 × Int32 × Int32))) : Prop := (o = none ∧ o' = none) ∨ ∃ t f f' s1 s2 s3 s4, o = some (.inr (nI t, nI t, f, s1, s2, s3, s4)) ∧ o' = some (.inr (nI t, nI t, f', s1, s2, s3, s4)) ∧ t ≤ 64 ∧ Ag t f f'
theorem db57_H {N : Nat} (hN : 100 ≤ N) : ∀ z t f f' g z0 w r x3 x4, t ≤ 64 → Ag t f f' → OR7 (fX8_loadDeBruijn_H57 N z (nI t) f g z0 w r x3 x4) (fX8_loadDeBruijn_H57 N z (nI t) f' g z0 w r x3 x4) := by
  intro z
  induction z with
  | zero => intro t f f' g z0 w r x3 x4 ht hf; exact Or.inl ⟨rfl, rfl⟩
  | succ z ih =>
    intro t f f' g z0 w r x3 x4 ht hf
    have hs : ∀ f, fX8_loadDeBruijn_H57 N (z + 1) (nI t) f g z0 w r x3 x4 = fX8_loadDeBruijn_B57 N (fX8_loadDeBruijn_H57 N z) (nI t) f g z0 w r x3 x4 := fun f => rfl
    rw [hs, hs]
    unfold fX8_loadDeBruijn_B57
    have hend : OR7 (fX8_loadDeBruijn_J93 N (nI t) f g z0 w r) (fX8_loadDeBruijn_J93 N (nI t) f' g z0 w r) := Or.inr ⟨t, f, f', g, z0, w, r, rfl, rfl, ht, hf⟩
    by_cases e : x3 = 0
    · rw [if_pos e, if_pos e]; exact hend
    · rw [if_neg e, if_neg e]
      by_cases e2 : (64 : Int32) ≤ x4
      · rw [if_pos e2, if_pos e2]; exact hend
      · rw [if_neg e2, if_neg e2]
        unfold fX3_root fX8_pushFromWalk
        rw [bn_s, bn_s]
        rcases pw_rel (g := g) (z0 := z0) (w := w) (r := r) hN N t f f' r (0 : Int32) ht hf with ⟨h1, h2⟩ | ⟨t2, h, h', h1, h2, h3, h4⟩
        · rw [h1, h2]; exact Or.inl ⟨rfl, rfl⟩
        · rw [h1, h2, bn_s, bn_s]
          cases fX3_toNextNecklace N g z0 w r with
          | none => exact Or.inl ⟨rfl, rfl⟩
          | some v =>
            rw [bn_s, bn_s]
            exact ih t2 h h' g z0 _ _ _ _ h3 h4
def chkDt (ta mt : Nat → Int32) : Nat → Bool
  | 0 => true
  | j + 1 => if ta j = mt j then if ta j = nI (ta j).toNatClampNeg then if (ta j).toNatClampNeg ≤ 25 then chkDt ta mt j else false else false else false
theorem chkDt_ok {ta mt : Nat → Int32} : ∀ t, chkDt ta mt t = true → ∀ j, j < t → mt j = ta j ∧ ∃ v, v ≤ 25 ∧ ta j = nI v := by
  intro t
  induction t with
  | zero => intro h j hj; omega
  | succ t ih =>
    intro h j hj
    rw [chkDt] at h
    by_cases e1 : ta t = mt t
    · rw [if_pos e1] at h
      by_cases e2 : ta t = nI (ta t).toNatClampNeg
      · rw [if_pos e2] at h
        by_cases e3 : (ta t).toNatClampNeg ≤ 25
        · rw [if_pos e3] at h
          by_cases e : j = t
          · rw [e]; exact ⟨e1.symm, _, e3, e2⟩
          · exact ih h j (by omega)
        · rw [if_neg e3] at h; exact absurd h (fun hh => Bool.noConfusion hh)
      · rw [if_neg e2] at h; exact absurd h (fun hh => Bool.noConfusion hh)
    · rw [if_neg e1] at h; exact absurd h (fun hh => Bool.noConfusion hh)
def chkDB (L m : Nat) : Bool := match fX4_power 100000 (nI L) (nI m), fX9_isDeBruijn 100000 (nI L) (nI m) with
  | some P, some v => if lg_cmp P (64 : Int64) ≤ 0 then if v = 0 then false else
      match fX8_loadDeBruijn_H57 100000 100000 (nI 0) (fun _ => 0) (nI L - 1) (nI m) 0 1 (1 : Int32) (0 : Int32), fX9_loadDeBruijn_J14 100000 0 0 0 (fun _ => 0) (fun _ => 0) (fun _ => 0) (nI L) (nI m) (0 : Int32) with
      | some (.inr (r, tn, ta, _)), some (r2, c, mn, mt, _) => decide (c = 0) && decide (r = r2) && decide (tn = mn) && chkDt ta mt tn.toNatClampNeg
      | _, _ => false
    else decide (v = 0)
  | _, _ => false
theorem isDB_bad1 {p1 p2 : Int32} (h : fX9_in 100000 p1 (1 : Int32) (8 : Int32) = some (nI 0)) : fX9_isDeBruijn 100000 p1 p2 = some (nI 0) := by
  have hj : ∀ x, fX9_isDeBruijn_J35 100000 p1 p2 x = some (nI 0) := by
    intro x
    unfold fX9_isDeBruijn_J35
    rw [h, bn_s, if_pos n0_0]
    rfl
  have hs : fX9_isDeBruijn 100000 p1 p2 = fX9_isDeBruijn_B4 100000 (fX9_isDeBruijn_H4 100000 99999) p1 p2 (1 : Int32) (0 : Int32) := rfl
  rw [hs]
  unfold fX9_isDeBruijn_B4
  rw [h, bn_s, if_pos n0_0, hj]
  by_cases e : p2 ≤ 0
  · rw [if_pos e]
  · rw [if_neg e]
theorem isDB_bad2 {p1 p2 : Int32} (h : fX9_in 100000 p1 (1 : Int32) (8 : Int32) = some (nI 1)) (h2 : fX9_in 100000 p2 (1 : Int32) (6 : Int32) = some (nI 0)) : fX9_isDeBruijn 100000 p1 p2 = some (nI 0) := by
  have hj : ∀ x, fX9_isDeBruijn_J35 100000 p1 p2 x = some (nI 0) := by
    intro x
    unfold fX9_isDeBruijn_J35
    rw [h, bn_s, if_neg n1_0, h2, bn_s, if_pos n0_0]
    rfl
  have hs : fX9_isDeBruijn 100000 p1 p2 = fX9_isDeBruijn_B4 100000 (fX9_isDeBruijn_H4 100000 99999) p1 p2 (1 : Int32) (0 : Int32) := rfl
  rw [hs]
  unfold fX9_isDeBruijn_B4
  rw [h, bn_s, if_neg n1_0, hj]
  by_cases e : p2 ≤ 0
  · rw [if_pos e]
  · rw [if_neg e]
    by_cases e2 : (6 : Int32) < p2
    · rw [if_pos e2]
    · exfalso
      unfold fX9_in at h2
      have h3 : ¬ p2 < (1 : Int32) := by
        intro hh
        apply e
        rw [Int32.lt_iff_toInt_lt] at hh
        rw [Int32.le_iff_toInt_le]
        have a1 : (1 : Int32).toInt = 1 := rfl
        have a0 : (0 : Int32).toInt = 0 := rfl
        omega
      rw [if_neg h3, if_neg e2] at h2
      exact absurd (Option.some.inj h2) (by decide)
theorem db_begin {N : Nat} {Tn Wg Wz Ww Wr p q : Int32} {α : Type} (H : Int32 → Int32 → Int32 → Int32 → Int32 → Option α) : (bn (fX2_empty N Tn) fun v40 => bn (fX3_begin N Wg Wz Ww Wr p q) fun v49 => H v40 v49.1 v49.2.1 v49.2.2.1 v49.2.2.2) = H (nI 0) (p - 1) q 0 1 := rfl
theorem ag_loadDeBruijn {n : Nat} {Ta Mt : Nat → Int32} (hok : ∀ L m, 1 ≤ L → L ≤ 8 → 1 ≤ m → m ≤ 6 → chkDB L m = true) (h : Two n Ta Mt) (Wg Wz Ww Wr : Int32) (Oa : Nat → Int64) (Mh Mm : Int32) (Mw Ml : Nat → Int32) (p1 p2 : Int32) : ∃ c tn ta wg wz ww wr oa r mn mt mw ml, fL_loadDeBruijn 100000 (nI n) Ta Wg Wz Ww Wr Oa p1 p2 = some (c, tn, ta, wg, wz, ww, wr, oa) ∧ fX9_loadDeBruijn 100000 Mh (nI n) Mm Mt Mw Ml p1 p2 = some (r, c, mn, mt, mw, ml) ∧ TwoR tn ta mn mt ∧ (c = 0 → oa 0 = r.toInt64) := by
  have hn := h.le
  have hN : 100 ≤ 100000 := by decide
  have bad : fX9_loadDeBruijn_J14 100000 Mm Mh (nI n) Mt Mw Ml p1 p2 (1 : Int32) = some ((0 : Int32), (1 : Int32), nI n, Mt, Mw, Ml) := by
    unfold fX9_loadDeBruijn_J14
    rw [goesB1, if_pos rfl]
  unfold fL_loadDeBruijn fX8_loadDeBruijn fX9_loadDeBruijn
  rcases arg_cases 100000 p1 (1 : Int32) (8 : Int32) 1 8 rfl rfl (by decide) with ⟨L, rfl, hL1, hL, g1, g2⟩ | ⟨g1, g2⟩
  · rw [g1, bx_r]
    rcases arg_cases 100000 p2 (1 : Int32) (6 : Int32) 1 6 rfl rfl (by decide) with ⟨m, rfl, hm1, hm, k1, k2⟩ | ⟨k1, k2⟩
    · rw [k1, bx_r]
      have hc := hok L m hL1 hL hm1 hm
      unfold chkDB at hc
      cases hp : fX4_power 100000 (nI L) (nI m) with
      | none => rw [hp] at hc; exact absurd hc (fun hh => Bool.noConfusion hh)
      | some P =>
        rw [hp] at hc
        cases hd : fX9_isDeBruijn 100000 (nI L) (nI m) with
        | none => rw [hd] at hc; exact absurd hc (fun hh => Bool.noConfusion hh)
        | some v =>
          rw [hd] at hc
          simp only at hc
          rw [bn_s, bn_s]
          by_cases e : lg_cmp P (64 : Int64) ≤ 0
          · rw [if_pos e] at hc
            by_cases e2 : v = 0
            · rw [if_pos e2] at hc; exact absurd hc (fun hh => Bool.noConfusion hh)
            · rw [if_neg e2] at hc
              rw [if_pos e, if_neg e2]
              have hcl := db_begin (N := 100000) (Tn := nI n) (Wg := Wg) (Wz := Wz) (Ww := Ww) (Wr := Wr) (p := nI L) (q := nI m) (fun v a b c d => fX8_loadDeBruijn_H57 100000 100000 v Ta a b c d (1 : Int32) (0 : Int32))
              rw [hcl]
              rcases db57_H hN 100000 0 Ta (fun _ => 0) (nI L - 1) (nI m) 0 1 (1 : Int32) (0 : Int32) (by omega) (fun j hj => by omega) with ⟨h1, h2⟩ | ⟨t, f, f', s1, s2, s3, s4, h1, h2, h3, h4⟩
              · rw [h2] at hc; exact absurd hc (fun hh => Bool.noConfusion hh)
              · rw [h2] at hc
                rcases dbM_rel (N := 100000) (Mh := Mh) (Mn := nI n) (Mm := Mm) (Mh' := 0) (Mn' := 0) (Mm' := 0) hN hL1 hL hm1 (show m ≤ 8 by omega) Mt (fun _ => 0) Mw (fun _ => 0) Ml (fun _ => 0) with ⟨h5, h6⟩ | ⟨r, c, t2, a1, a2, a3, b1, b2, b3, h5, h6, h7, h8⟩
                · rw [h6] at hc; exact absurd hc (fun hh => Bool.noConfusion hh)
                · rw [h6] at hc
                  simp only [Bool.and_eq_true, decide_eq_true_eq] at hc
                  obtain ⟨⟨⟨d1, d2⟩, d3⟩, d4⟩ := hc
                  have ht : t = t2 := (nI_eq (by omega) (by omega)).mp d3
                  subst ht
                  rw [nI_clamp (by omega)] at d4
                  have d5 := chkDt_ok t d4
                  subst d1
                  rw [h1, h5, bx_r]
                  refine ⟨_, _, _, _, _, _, _, _, _, _, _, _, _, rfl, rfl, ⟨t, rfl, rfl, h3, fun j hj => ?_⟩, fun _ => (oa_1 _ _).trans ?_⟩
                  · show a1 j = f j ∧ ∃ v, v ≤ 25 ∧ f j = nI v
                    rw [h8 j hj, h4 j hj]
                    exact d5 j hj
                  · show (nI t).toInt64 = r.toInt64
                    rw [d2]
          · rw [if_neg e] at hc
            have hv : v = 0 := decide_eq_true_eq.mp hc
            rw [if_neg e, if_pos hv, bad]
            exact ⟨_, _, _, _, _, _, _, _, _, _, _, _, _, rfl, rfl, ⟨n, rfl, rfl, h⟩, fun hh => absurd hh (by decide)⟩
    · rw [k1, isDB_bad2 g2 k2, bn_s, if_pos n0_0, bad]
      exact ⟨_, _, _, _, _, _, _, _, _, _, _, _, _, rfl, rfl, ⟨n, rfl, rfl, h⟩, fun hh => absurd hh (by decide)⟩
  · rw [g1, isDB_bad1 g2, bn_s, if_pos n0_0, bad]
    exact ⟨_, _, _, _, _, _, _, _, _, _, _, _, _, rfl, rfl, ⟨n, rfl, rfl, h⟩, fun hh => absurd hh (by decide)⟩
