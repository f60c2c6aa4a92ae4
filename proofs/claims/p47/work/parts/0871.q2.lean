/-! p47: the loads, and the law's act -/
def Ed7 (n : Nat) (f : Nat → Int32) (o q : Option (Int32 × Int32 × (Nat → Int32) × Int32 × Int32 × Int32 × Int32)) : Prop := ∃ r n' f' g' a b c d a' b' c' d', o = some (r, nI n', f', a, b, c, d) ∧ q = some (r, nI n', g', a', b', c', d') ∧ Two n' f' g' ∧ (r = RF → n' = n ∧ f' = f)
theorem Ed7.no {n : Nat} {f g : Nat → Int32} {a b c d a' b' c' d' : Int32} (h : Two n f g) : Ed7 n f (some (RF, nI n, f, a, b, c, d)) (some (RF, nI n, g, a', b', c', d')) := ⟨_, n, _, _, _, _, _, _, _, _, _, _, rfl, rfl, h, fun _ => ⟨rfl, rfl⟩⟩
theorem nI_inj {a b : Nat} (ha : a < 2 ^ 31) (hb : b < 2 ^ 31) (h : nI a = nI b) : a = b := (nI_eq ha hb).mp h
theorem ed_deBruijn {n : Nat} {f g : Nat → Int32} (h : Two n f g) (Wg Wz Ww Wr Vg Vz Vw Vr p1 p2 : Int32) : Ed7 n f (fL_deBruijn 100000 (nI n) f Wg Wz Ww Wr p1 p2) (fL_deBruijn 100000 (nI n) g Vg Vz Vw Vr p1 p2) := by
  have hn := h.le
  have hN : 100 ≤ 100000 := by decide
  unfold fL_deBruijn fX8_loadDeBruijn
  rcases argC 100000 p1 (1 : Int32) (8 : Int32) 1 8 rfl rfl (by decide) with ⟨L, rfl, hL1, hL, g1⟩ | g1
  · rw [g1, bx_r, bx_r]
    rcases argC 100000 p2 (1 : Int32) (6 : Int32) 1 6 rfl rfl (by decide) with ⟨m, rfl, hm1, hm, k1⟩ | k1
    · rw [k1, bx_r, bx_r]
      have hc := dbOk2 L m hL1 hL hm1 hm
      unfold chkD2 at hc
      cases hp : fX4_power 100000 (nI L) (nI m) with
      | none => rw [hp] at hc; exact absurd hc (fun hh => Bool.noConfusion hh)
      | some P =>
        rw [hp] at hc
        simp only at hc
        rw [bn_s, bn_s]
        by_cases e : lg_cmp P (64 : Int64) ≤ 0
        · rw [if_pos e] at hc
          rw [if_pos e, if_pos e]
          have hcf := db_begin (N := 100000) (Tn := nI n) (Wg := Wg) (Wz := Wz) (Ww := Ww) (Wr := Wr) (p := nI L) (q := nI m) (fun v a b c d => fX8_loadDeBruijn_H57 100000 100000 v f a b c d (1 : Int32) (0 : Int32))
          have hcg := db_begin (N := 100000) (Tn := nI n) (Wg := Vg) (Wz := Vz) (Ww := Vw) (Wr := Vr) (p := nI L) (q := nI m) (fun v a b c d => fX8_loadDeBruijn_H57 100000 100000 v g a b c d (1 : Int32) (0 : Int32))
          rw [hcf, hcg]
          rcases db57_H hN 100000 0 f (fun _ => 0) (nI L - 1) (nI m) 0 1 (1 : Int32) (0 : Int32) (by omega) (fun j hj => by omega) with ⟨h1, h2⟩ | ⟨t, f1, z1, s1, s2, s3, s4, h1, h2, h3, h4⟩
          · rw [h2] at hc; exact absurd hc (fun hh => Bool.noConfusion hh)
          · rcases db57_H hN 100000 0 g (fun _ => 0) (nI L - 1) (nI m) 0 1 (1 : Int32) (0 : Int32) (by omega) (fun j hj => by omega) with ⟨i1, i2⟩ | ⟨t', g1', z2, u1, u2, u3, u4, i1, i2, i3, i4⟩
            · rw [i2] at h2; cases h2
            · rw [h2] at hc
              rw [h2] at i2
              have hi := Sum.inr.inj (Option.some.inj i2)
              simp only [Prod.mk.injEq] at hi
              obtain ⟨e1, -, e3, -⟩ := hi
              have ht := nI_inj (by omega) (by omega) e1
              subst ht
              subst e3
              simp only [nI_clamp (show t < 2 ^ 31 by omega)] at hc
              have d5 := chkDt_ok t hc
              rw [h1, i1]
              refine ⟨nI t, t, f1, g1', _, _, _, _, _, _, _, _, rfl, rfl, ⟨h3, fun j hj => ?_⟩, fun e => absurd e (nI_RF (by omega))⟩
              rw [h4 j hj, i4 j hj]
              exact ⟨rfl, (d5 j hj).2⟩
        · rw [if_neg e, if_neg e]
          exact Ed7.no h
    · rw [k1]
      exact Ed7.no h
  · rw [g1]
    exact Ed7.no h
theorem ed_necklace {n : Nat} {f g : Nat → Int32} (hok : ∀ L m, 1 ≤ L → L ≤ 4 → 1 ≤ m → m ≤ 8 → WalkOk L m) (h : Two n f g) (Wg Wz Ww Wr Vg Vz Vw Vr p1 p2 p3 : Int32) : Ed7 n f (fL_necklace 100000 (nI n) f Wg Wz Ww Wr p1 p2 p3) (fL_necklace 100000 (nI n) g Vg Vz Vw Vr p1 p2 p3) := by
  have hn := h.le
  have hN : 100 ≤ 100000 := by decide
  unfold fL_necklace fX8_loadNecklace
  rcases argC 100000 p1 (1 : Int32) (4 : Int32) 1 4 rfl rfl (by decide) with ⟨L, rfl, hL1, hL, g1⟩ | g1
  · rw [g1, bx_r, bx_r]
    rcases argC 100000 p2 (1 : Int32) (8 : Int32) 1 8 rfl rfl (by decide) with ⟨m, rfl, hm1, hm, k1⟩ | k1
    · rw [k1, bx_r, bx_r]
      rcases i_lt0 (x := p3) with h0 | ⟨k, hk, rfl⟩
      · rw [if_pos h0, if_pos h0]
        exact Ed7.no h
      · have hpow := pow_small hL hm
        obtain ⟨C, c1, c2, c3, c4⟩ := walk_facts (hok L m hL1 hL hm1 hm)
        rw [if_neg (nI_pos hk), if_neg (nI_pos hk), c3, bn_s, bn_s]
        have hcmp : lg_cmp ((nI k).toInt64) (Int64.ofNat C) < 0 ↔ k < C := by
          rw [lg_cmp_lt, nI_l hk]
          exact lN_lt hk (by omega)
        by_cases hkC : k < C
        · obtain ⟨y, y2, y3, y4⟩ := ct_hit (P := fun y => nkR L m y ≠ 0) (j := k) (L ^ m) (by omega)
          have hlast := c4 y y2 y3
          rw [y4] at hlast
          have hall : ∀ j, j ≤ k → ∃ w r, ws L m j = some (some (w, r)) := by
            intro j hj
            obtain ⟨y', z1, z2, z3⟩ := ct_hit (P := fun y => nkR L m y ≠ 0) (j := j) (L ^ m) (by omega)
            have := c4 y' z1 z2
            rw [z3] at this
            exact ⟨_, _, this⟩
          have key : ∀ (Ta : Nat → Int32) (Xg Xz Xw Xr : Int32), ∃ f2, (bn (fX3_begin 100000 Xg Xz Xw Xr (nI L) (nI m)) fun v44 => fX8_loadNecklace_H50 100000 100000 (nI n) Ta v44.1 v44.2.1 v44.2.2.1 v44.2.2.2 (nI m) (nI k) (0 : Int32)) = some (.inr (nI (nkR L m y), nI m, f2, nI L - 1, nI m, nI (p8 L m y), nI (nkR L m y))) ∧ ∀ j, j < m → f2 j = nI (dg L m y j) := by
            intro Ta Xg Xz Xw Xr
            have hload := loadC_H (Tn := nI n) (Ta := Ta) hk hall hlast k 0 100000 0 1 (by omega) (by omega) rfl
            obtain ⟨f2, p1', p2'⟩ := pushW_H (N := 100000) (g := nI L - 1) (r := nI (nkR L m y)) (x := y) hN hL1 (by omega) hm m 0 100000 Ta (by omega) (by omega) (fun j hj => by omega)
            have p3' : fX8_pushFromWalk 100000 (nI 0) Ta (nI L - 1) (nI m) (nI (p8 L m y)) (nI (nkR L m y)) (nI m) = some (nI m, f2) := p1'
            refine ⟨f2, ?_, p2'⟩
            have hb : (bn (fX3_begin 100000 Xg Xz Xw Xr (nI L) (nI m)) fun v44 => fX8_loadNecklace_H50 100000 100000 (nI n) Ta v44.1 v44.2.1 v44.2.2.1 v44.2.2.2 (nI m) (nI k) (0 : Int32)) = fX8_loadNecklace_J70 100000 (nI n) Ta (nI L - 1) (nI m) (nI (p8 L m y)) (nI (nkR L m y)) (nI m) := hload
            rw [hb]
            unfold fX8_loadNecklace_J70 fX2_empty fX3_root
            rw [bn_s, q_0, p3', bn_s, bn_s]
          have hroot : nkR L m y ≤ m := by
            rcases nkR_spec hL1 (by omega) hm1 hm y2 with ⟨e1, e2⟩ | ⟨e1, e2, e3⟩
            · exact absurd e1 y3
            · rw [e3]; exact (rt_spec (by omega)).2.1
          obtain ⟨f2, a1, a2⟩ := key f Wg Wz Ww Wr
          obtain ⟨g2, b1, b2⟩ := key g Vg Vz Vw Vr
          rw [if_pos (hcmp.mpr hkC), if_pos (hcmp.mpr hkC), a1, b1]
          refine ⟨nI (nkR L m y), m, f2, g2, _, _, _, _, _, _, _, _, rfl, rfl, ⟨by omega, fun j hj => ?_⟩, fun e => absurd e (nI_RF (by omega))⟩
          rw [a2 j hj, b2 j hj]
          exact ⟨rfl, _, by have := dg_lt (m := m) (x := y) (k := j) hL1; omega, rfl⟩
        · rw [if_neg (fun hh => hkC (hcmp.mp hh)), if_neg (fun hh => hkC (hcmp.mp hh))]
          exact Ed7.no h
    · rw [k1]
      exact Ed7.no h
  · rw [g1]
    exact Ed7.no h
/-- the law's low -/
theorem low_nI {N n : Nat} (v : Int32) (h : 0 < n) (hn : n < 2 ^ 31) : ∃ r, r < n ∧ fL_low N v (nI n) = some (nI r) := by
  unfold fL_low
  obtain ⟨j, hj, e⟩ := pk_andE v 31 (m := (2147483647 : Int32)) (by decide)
  rw [e, q_nz h hn, gd_t, pk_rem hj h hn]
  exact ⟨j % n, Nat.mod_lt _ h, rfl⟩
theorem lift3 {n : Nat} {f g : Nat → Int32} {o q : Option (Int32 × Int32 × (Nat → Int32))} (h : Ed3 n f g o q) (a b c d a' b' c' d' : Int32) : Ed7 n f (bn o (fun v => some (v.1, v.2.1, v.2.2, a, b, c, d))) (bn q (fun v => some (v.1, v.2.1, v.2.2, a', b', c', d'))) := by
  obtain ⟨r, n', f', g', h1, h2, h3, h4⟩ := h
  rw [h1, h2]
  exact ⟨r, n', f', g', _, _, _, _, _, _, _, _, rfl, rfl, h3, h4⟩
theorem lift2 {n : Nat} {f g : Nat → Int32} {o q : Option (Int32 × (Nat → Int32))} (h : Ed2 n f g o q) (a b c d a' b' c' d' : Int32) : Ed7 n f (bn o (fun v => some (v.1, nI n, v.2, a, b, c, d))) (bn q (fun v => some (v.1, nI n, v.2, a', b', c', d'))) := by
  obtain ⟨r, f', g', h1, h2, h3, h4⟩ := h
  rw [h1, h2]
  exact ⟨r, n, f', g', _, _, _, _, _, _, _, _, rfl, rfl, h3, fun e => ⟨rfl, h4 e⟩⟩
theorem lift7 {n : Nat} {f : Nat → Int32} {o q : Option (Int32 × Int32 × (Nat → Int32) × Int32 × Int32 × Int32 × Int32)} (h : Ed7 n f o q) (N : Nat) : Ed7 n f (bn o (fun v => fL_act_J299 N v.2.1 v.2.2.1 v.2.2.2.1 v.2.2.2.2.1 v.2.2.2.2.2.1 v.2.2.2.2.2.2 v.1)) (bn q (fun v => fL_act_J299 N v.2.1 v.2.2.1 v.2.2.2.1 v.2.2.2.2.1 v.2.2.2.2.2.1 v.2.2.2.2.2.2 v.1)) := by
  obtain ⟨r, n', f', g', a, b, c, d, a', b', c', d', h1, h2, h3, h4⟩ := h
  rw [h1, h2]
  exact ⟨r, n', f', g', _, _, _, _, _, _, _, _, rfl, rfl, h3, h4⟩
theorem act_J173 {n : Nat} {f g : Nat → Int32} (h : Two n f g) (Wg Wz Ww Wr Vg Vz Vw Vr y1 : Int32) {k : Nat} (hk : 0 < k) (hk2 : k < 2 ^ 31) : Ed7 n f (fL_act_J173 100000 (nI n) f Wg Wz Ww Wr y1 (nI k)) (fL_act_J173 100000 (nI n) g Vg Vz Vw Vr y1 (nI k)) := by
  obtain ⟨r, -, e⟩ := low_nI (N := 100000) y1 hk hk2
  unfold fL_act_J173
  rw [e, bn_s, bn_s]
  exact lift2 (ed_rotate (by decide) h _) _ _ _ _ _ _ _ _
theorem act_J157 {n : Nat} {f g : Nat → Int32} (h : Two n f g) (Wg Wz Ww Wr Vg Vz Vw Vr x1 x2 : Int32) : Ed7 n f (fL_act_J157 100000 (nI n) f Wg Wz Ww Wr x1 x2) (fL_act_J157 100000 (nI n) g Vg Vz Vw Vr x1 x2) := by
  unfold fL_act_J157
  by_cases c : x2 = 0
  · rw [if_pos c, if_pos c]
    exact act_J173 h _ _ _ _ _ _ _ _ _ (k := 64) (by decide) (by decide)
  · rw [if_neg c, if_neg c]
    exact act_J173 h _ _ _ _ _ _ _ _ _ (k := 70) (by decide) (by decide)
theorem act_J180 {n : Nat} {f g : Nat → Int32} (h : Two n f g) (Wg Wz Ww Wr Vg Vz Vw Vr x1 x5 : Int32) : Ed7 n f (fL_act_J180 100000 (nI n) f Wg Wz Ww Wr x1 x5) (fL_act_J180 100000 (nI n) g Vg Vz Vw Vr x1 x5) := by
  obtain ⟨r, -, e⟩ := low_nI (N := 100000) (n := 6) (x1 >>> ((14 : Int32) &&& 31)) (by decide) (by decide)
  unfold fL_act_J180
  rw [show (6 : Int32) = nI 6 from rfl, e, bn_s, bn_s]
  exact lift3 (ed_copy (by decide) h _ _) _ _ _ _ _ _ _ _
theorem act_J201 {n : Nat} {f g : Nat → Int32} (h : Two n f g) (Wg Wz Ww Wr Vg Vz Vw Vr x1 : Int32) : Ed7 n f (fL_act_J201 100000 (nI n) f Wg Wz Ww Wr x1) (fL_act_J201 100000 (nI n) g Vg Vz Vw Vr x1) := by
  have hn := h.le
  unfold fL_act_J201
  by_cases c : ((x1 >>> ((12 : Int32) &&& 31)) &&& (7 : Int32)) = 0
  · rw [if_pos c, if_pos c]
    exact ⟨nI n, 0, f, g, _, _, _, _, _, _, _, _, rfl, rfl, ⟨by omega, fun j hj => by omega⟩, fun e => absurd e (nI_RF (by omega))⟩
  · rw [if_neg c, if_neg c]
    obtain ⟨r, f', g', h1, h2, h3, h4⟩ := ed_reverse (N := 100000) (by decide) h
    rw [h1, h2]
    exact ⟨r, n, f', g', _, _, _, _, _, _, _, _, rfl, rfl, h3, fun e => ⟨rfl, h4 e⟩⟩
theorem act_J293 {n : Nat} {f g : Nat → Int32} (hok : ∀ L m, 1 ≤ L → L ≤ 4 → 1 ≤ m → m ≤ 8 → WalkOk L m) (h : Two n f g) (Wg Wz Ww Wr Vg Vz Vw Vr y1 y2 y3 : Int32) {k : Nat} (hk : 0 < k) (hk2 : k < 2 ^ 31) : Ed7 n f (fL_act_J293 100000 (nI n) f Wg Wz Ww Wr y1 y2 y3 (nI k)) (fL_act_J293 100000 (nI n) g Vg Vz Vw Vr y1 y2 y3 (nI k)) := by
  obtain ⟨r, -, e⟩ := low_nI (N := 100000) y3 hk hk2
  unfold fL_act_J293
  rw [e, bn_s, bn_s]
  exact lift7 (ed_necklace hok h _ _ _ _ _ _ _ _ _ _ _) _
theorem act_J223 {n : Nat} {f g : Nat → Int32} (hok : ∀ L m, 1 ≤ L → L ≤ 4 → 1 ≤ m → m ≤ 8 → WalkOk L m) (h : Two n f g) (Wg Wz Ww Wr Vg Vz Vw Vr x1 x2 : Int32) : Ed7 n f (fL_act_J223 100000 (nI n) f Wg Wz Ww Wr x1 x2) (fL_act_J223 100000 (nI n) g Vg Vz Vw Vr x1 x2) := by
  unfold fL_act_J223
  by_cases c : ((x1 >>> ((12 : Int32) &&& 31)) &&& (1 : Int32)) = 0
  · rw [if_pos c, if_pos c]
    obtain ⟨r, -, e⟩ := low_nI (N := 100000) (n := 10) (x1 >>> ((5 : Int32) &&& 31)) (by decide) (by decide)
    obtain ⟨r2, -, e2⟩ := low_nI (N := 100000) (n := 8) (x1 >>> ((9 : Int32) &&& 31)) (by decide) (by decide)
    rw [show (10 : Int32) = nI 10 from rfl, show (8 : Int32) = nI 8 from rfl, e, bn_s, bn_s, e2, bn_s, bn_s]
    exact lift7 (ed_deBruijn h _ _ _ _ _ _ _ _ _ _) _
  · rw [if_neg c, if_neg c]
    obtain ⟨r, -, e⟩ := low_nI (N := 100000) (n := 4) (x1 >>> ((5 : Int32) &&& 31)) (by decide) (by decide)
    obtain ⟨r2, -, e2⟩ := low_nI (N := 100000) (n := 8) (x1 >>> ((8 : Int32) &&& 31)) (by decide) (by decide)
    rw [show (fL_low 100000 (x1 >>> ((5 : Int32) &&& 31)) (4 : Int32)) = some (nI r) from e, show (fL_low 100000 (x1 >>> ((8 : Int32) &&& 31)) (8 : Int32)) = some (nI r2) from e2, bn_s, bn_s, bn_s, bn_s]
    by_cases c2 : x2 = 0
    · rw [if_pos c2, if_pos c2]
      exact act_J293 hok h _ _ _ _ _ _ _ _ _ _ _ (k := 12) (by decide) (by decide)
    · rw [if_neg c2, if_neg c2]
      exact act_J293 hok h _ _ _ _ _ _ _ _ _ _ _ (k := 9999) (by decide) (by decide)
theorem act_J76 {n : Nat} {f g : Nat → Int32} (hok : ∀ L m, 1 ≤ L → L ≤ 4 → 1 ≤ m → m ≤ 8 → WalkOk L m) (h : Two n f g) (Wg Wz Ww Wr Vg Vz Vw Vr x1 x2 x4 y0 : Int32) : Ed7 n f (fL_act_J76 100000 (nI n) f Wg Wz Ww Wr x1 x2 x4 y0) (fL_act_J76 100000 (nI n) g Vg Vz Vw Vr x1 x2 x4 y0) := by
  unfold fL_act_J76
  obtain ⟨r, hr, e⟩ := low_nI (N := 100000) (n := 16) x1 (by decide) (by decide)
  rw [show (fL_low 100000 x1 (16 : Int32)) = some (nI r) from e, bn_s, bn_s]
  by_cases c : (nI r).toInt < 0 ∨ 7 < (nI r).toInt
  · rw [if_pos c, if_pos c]; exact lift3 (ed_append (by decide) h _) _ _ _ _ _ _ _ _
  · rw [if_neg c, if_neg c]
    by_cases c0 : (nI r).toInt = 0
    · rw [if_pos c0, if_pos c0]; exact lift3 (ed_insert (by decide) h _ _) _ _ _ _ _ _ _ _
    · rw [if_neg c0, if_neg c0]
      by_cases c1 : (nI r).toInt = 1
      · rw [if_pos c1, if_pos c1]; exact lift2 (ed_set h _ _) _ _ _ _ _ _ _ _
      · rw [if_neg c1, if_neg c1]
        by_cases c2 : (nI r).toInt = 2
        · rw [if_pos c2, if_pos c2]; exact lift3 (ed_remove (by decide) h _) _ _ _ _ _ _ _ _
        · rw [if_neg c2, if_neg c2]
          by_cases c3 : (nI r).toInt = 3
          · rw [if_pos c3, if_pos c3]; exact act_J157 h _ _ _ _ _ _ _ _ _ _
          · rw [if_neg c3, if_neg c3]
            by_cases c4 : (nI r).toInt = 4
            · rw [if_pos c4, if_pos c4]; exact act_J180 h _ _ _ _ _ _ _ _ _ _
            · rw [if_neg c4, if_neg c4]
              by_cases c5 : (nI r).toInt = 5
              · rw [if_pos c5, if_pos c5]; exact act_J180 h _ _ _ _ _ _ _ _ _ _
              · rw [if_neg c5, if_neg c5]
                by_cases c6 : (nI r).toInt = 6
                · rw [if_pos c6, if_pos c6]; exact act_J201 h _ _ _ _ _ _ _ _ _
                · rw [if_neg c6, if_neg c6]; exact act_J223 hok h _ _ _ _ _ _ _ _ _ _
theorem act_J55 {n : Nat} {f g : Nat → Int32} (hok : ∀ L m, 1 ≤ L → L ≤ 4 → 1 ≤ m → m ≤ 8 → WalkOk L m) (h : Two n f g) (Wg Wz Ww Wr Vg Vz Vw Vr x1 x2 y0 : Int32) {k3 k : Nat} (hk3 : k3 < 2 ^ 31) (hk : 0 < k) (hk2 : k < 2 ^ 31) : Ed7 n f (fL_act_J55 100000 (nI n) f Wg Wz Ww Wr x1 x2 (nI k3) y0 (nI k)) (fL_act_J55 100000 (nI n) g Vg Vz Vw Vr x1 x2 (nI k3) y0 (nI k)) := by
  unfold fL_act_J55
  obtain ⟨r, hr, e⟩ := low_nI (N := 100000) y0 hk hk2
  rw [e, bn_s, bn_s]
  by_cases c : nI k3 = 0
  · rw [if_pos c, if_pos c]
    exact act_J76 hok h _ _ _ _ _ _ _ _ _ _ _ _
  · rw [if_neg c, if_neg c]
    obtain ⟨r2, -, e2⟩ := low_nI (N := 100000) (n := k3) (x1 >>> ((8 : Int32) &&& 31)) (by rw [nI_z hk3] at c; omega) hk3
    rw [e2, bn_s, bn_s]
    exact act_J76 hok h _ _ _ _ _ _ _ _ _ _ _ _
theorem act_J31 {n : Nat} {f g : Nat → Int32} (hok : ∀ L m, 1 ≤ L → L ≤ 4 → 1 ≤ m → m ≤ 8 → WalkOk L m) (h : Two n f g) (Wg Wz Ww Wr Vg Vz Vw Vr x1 x2 : Int32) {b : Nat} (hb : b ≤ 1) : Ed7 n f (fL_act_J31 100000 (nI n) f Wg Wz Ww Wr x1 x2 (nI n) (nI b)) (fL_act_J31 100000 (nI n) g Vg Vz Vw Vr x1 x2 (nI n) (nI b)) := by
  have hn := h.le
  unfold fL_act_J31
  rw [nI_add]
  by_cases c : x2 = 0
  · rw [if_pos c, if_pos c]
    obtain ⟨r, hr, e⟩ := low_nI (N := 100000) (n := 3) (x1 >>> ((26 : Int32) &&& 31)) (by decide) (by decide)
    rw [show (fL_low 100000 (x1 >>> ((26 : Int32) &&& 31)) (3 : Int32)) = some (nI r) from e, bn_s, bn_s, q_1, nI_add]
    exact act_J55 hok h _ _ _ _ _ _ _ _ _ _ _ (by omega) (by omega) (by omega)
  · rw [if_neg c, if_neg c]
    exact act_J55 hok h _ _ _ _ _ _ _ _ _ _ _ (k := 28) (by omega) (by decide) (by decide)
theorem act_J17 {n : Nat} {f g : Nat → Int32} (hok : ∀ L m, 1 ≤ L → L ≤ 4 → 1 ≤ m → m ≤ 8 → WalkOk L m) (h : Two n f g) (Wg Wz Ww Wr Vg Vz Vw Vr x1 y0 : Int32) : Ed7 n f (fL_act_J17 100000 (nI n) f Wg Wz Ww Wr x1 y0) (fL_act_J17 100000 (nI n) g Vg Vz Vw Vr x1 y0) := by
  unfold fL_act_J17 fX8_length fX2_count
  rw [bn_s, bn_s, bn_s]
  by_cases c : y0 = 0
  · rw [if_pos c, if_pos c]
    exact act_J31 hok h _ _ _ _ _ _ _ _ _ _ (b := 0) (by decide)
  · rw [if_neg c, if_neg c]
    exact act_J31 hok h _ _ _ _ _ _ _ _ _ _ (b := 1) (by decide)
theorem act_two {n : Nat} {f g : Nat → Int32} (hok : ∀ L m, 1 ≤ L → L ≤ 4 → 1 ≤ m → m ≤ 8 → WalkOk L m) (h : Two n f g) (Wg Wz Ww Wr Vg Vz Vw Vr v : Int32) : Ed7 n f (fL_act 100000 (nI n) f Wg Wz Ww Wr v) (fL_act 100000 (nI n) g Vg Vz Vw Vr v) := by
  unfold fL_act
  obtain ⟨r, hr, e⟩ := low_nI (N := 100000) (n := 8) (v >>> ((22 : Int32) &&& 31)) (by decide) (by decide)
  rw [show (fL_low 100000 (v >>> ((22 : Int32) &&& 31)) (8 : Int32)) = some (nI r) from e, bn_s, bn_s]
  by_cases c : nI r = 0
  · rw [if_pos c, if_pos c]
    exact act_J17 hok h _ _ _ _ _ _ _ _ _ _
  · rw [if_neg c, if_neg c]
    exact act_J17 hok h _ _ _ _ _ _ _ _ _ _
