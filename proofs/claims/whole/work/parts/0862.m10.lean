/-! numbers of necklaces and of Lyndon words: by the kernel, for all letters up to 10 and lengths up to 12 -/
theorem nzL_12 : ∀ m : Fin 13, m.val = 0 ∨ nzL ((nI m.val).toInt64) = true := by decide +kernel
theorem nzL_n {m : Nat} (h : 1 ≤ m) (h2 : m ≤ 12) : nzL ((nI m).toInt64) = true := by
  rcases nzL_12 ⟨m, by omega⟩ with h3 | h3
  · exact absurd h3 (show ¬ m = 0 by omega)
  · exact h3
theorem q_inb13 {a : Nat} (h : a < 13) : inb (nI a) 13 = true := q_inb h (by decide)
theorem ly22_H {N m : Nat} {Mh Mn Mm Mh' Mn' Mm' x1 x2 : Int32} {w : Int64} {Y Y' : Nat → Int64} (hm : m ≤ 12) (hY : ∀ j, 1 ≤ j → j < m → Y j = Y' j) (k5 k5' : (Nat → Int64) → Int32 → Int32 → Int64 → Int32 → Option (Nat → Int64)) : ∀ d p z o, p + d = m → 1 ≤ p → d < z → ∃ o2, fX9_layLyndon_H22 N Mh Mn Mm k5 z Y x1 x2 w (nI m) o (nI p) = fX9_layLyndon_J63 N Mh Mn Mm k5 Y x1 x2 w (nI m) o2 ∧ fX9_layLyndon_H22 N Mh' Mn' Mm' k5' z Y' x1 x2 w (nI m) o (nI p) = fX9_layLyndon_J63 N Mh' Mn' Mm' k5' Y' x1 x2 w (nI m) o2 := by
  intro d
  induction d with
  | zero =>
    intro p z o hp hp1 hz
    obtain ⟨z, rfl⟩ : ∃ y, z = y + 1 := ⟨z - 1, by omega⟩
    refine ⟨o, ?_, ?_⟩
    · show fX9_layLyndon_B22 N _ _ _ _ _ _ _ _ _ _ _ _ = _
      unfold fX9_layLyndon_B22
      rw [if_pos (by rw [nI_leI (by omega) (by omega)]; omega)]
    · show fX9_layLyndon_B22 N _ _ _ _ _ _ _ _ _ _ _ _ = _
      unfold fX9_layLyndon_B22
      rw [if_pos (by rw [nI_leI (by omega) (by omega)]; omega)]
  | succ d ih =>
    intro p z o hp hp1 hz
    obtain ⟨z, rfl⟩ : ∃ y, z = y + 1 := ⟨z - 1, by omega⟩
    have hmod : m % p < p := Nat.mod_lt _ (by omega)
    have step : ∀ (Mh Mn Mm : Int32) (k5 : (Nat → Int64) → Int32 → Int32 → Int64 → Int32 → Option (Nat → Int64)) (Y : Nat → Int64), fX9_layLyndon_H22 N Mh Mn Mm k5 (z + 1) Y x1 x2 w (nI m) o (nI p) = if m % p = 0 then fX9_layLyndon_H22 N Mh Mn Mm k5 z Y x1 x2 w (nI m) (o + (nI p).toInt64 * Y p) (nI (p + 1)) else fX9_layLyndon_H22 N Mh Mn Mm k5 z Y x1 x2 w (nI m) (o + (0 : Int64)) (nI (p + 1)) := by
      intro Mh Mn Mm k5 Y
      show fX9_layLyndon_B22 N _ _ _ _ _ _ _ _ _ _ _ _ = _
      unfold fX9_layLyndon_B22 fX9_layLyndon_J54
      rw [if_neg (by rw [nI_leI (by omega) (by omega)]; omega), q_nz (by omega) (by omega), gd_t, pk_rem (by omega) (by omega) (by omega), q_inb13 (by omega), gd_t, nI_clamp (by omega), nI_1]
      by_cases e : m % p = 0
      · rw [if_pos e, if_pos (by rw [e]; rfl)]
      · rw [if_neg e, if_neg (by rw [nI_z (by omega)]; exact e)]
    rw [step Mh Mn Mm k5 Y, step Mh' Mn' Mm' k5' Y', ← hY p hp1 (by omega)]
    by_cases e : m % p = 0
    · rw [if_pos e, if_pos e]
      exact ih (p + 1) z _ (by omega) (by omega) (by omega)
    · rw [if_neg e, if_neg e]
      exact ih (p + 1) z _ (by omega) (by omega) (by omega)
theorem ly5_H {N M : Nat} {Mh Mn Mm Mh' Mn' Mm' x1 : Int32} (hN : 100 ≤ N) (hM : M ≤ 12) : ∀ d m z w (Y Y' : Nat → Int64), m + d = M + 1 → 1 ≤ m → d < z → (∀ j, 1 ≤ j → j < m → Y j = Y' j) → ∃ r r2, fX9_layLyndon_H5 N Mh Mn Mm z Y x1 (nI M) w (nI m) = some r ∧ fX9_layLyndon_H5 N Mh' Mn' Mm' z Y' x1 (nI M) w (nI m) = some r2 ∧ ∀ j, 1 ≤ j → j ≤ M → r j = r2 j := by
  intro d
  induction d with
  | zero =>
    intro m z w Y Y' hm hm1 hz hY
    obtain ⟨z, rfl⟩ : ∃ y, z = y + 1 := ⟨z - 1, by omega⟩
    refine ⟨Y, Y', ?_, ?_, fun j h1 h2 => hY j h1 (by omega)⟩
    · show fX9_layLyndon_B5 N _ _ _ _ _ _ _ _ _ = _
      unfold fX9_layLyndon_B5
      rw [if_pos (by rw [nI_ltI (by omega) (by omega)]; omega)]
      rfl
    · show fX9_layLyndon_B5 N _ _ _ _ _ _ _ _ _ = _
      unfold fX9_layLyndon_B5
      rw [if_pos (by rw [nI_ltI (by omega) (by omega)]; omega)]
      rfl
  | succ d ih =>
    intro m z w Y Y' hm hm1 hz hY
    obtain ⟨z, rfl⟩ : ∃ y, z = y + 1 := ⟨z - 1, by omega⟩
    obtain ⟨o, o1, o2⟩ := ly22_H (N := N) (Mh := Mh) (Mn := Mn) (Mm := Mm) (Mh' := Mh') (Mn' := Mn') (Mm' := Mm') (x1 := x1) (x2 := nI M) (w := w * x1.toInt64) (show m ≤ 12 by omega) hY (fX9_layLyndon_H5 N Mh Mn Mm z) (fX9_layLyndon_H5 N Mh' Mn' Mm' z) (m - 1) 1 N (0 : Int64) (by omega) (by omega) (by omega)
    obtain ⟨r, r2, g1, g2, g3⟩ := ih (m + 1) z (w * x1.toInt64) (vp_updL Y m ((w * x1.toInt64 - o) / (nI m).toInt64)) (vp_updL Y' m ((w * x1.toInt64 - o) / (nI m).toInt64)) (by omega) (by omega) (by omega) (fun j h1 h2 => by
      by_cases e : j = m
      · rw [e, pk_uLs, pk_uLs]
      · rw [pk_uLn e, pk_uLn e]; exact hY j h1 (by omega))
    refine ⟨r, r2, ?_, ?_, g3⟩
    · show fX9_layLyndon_B5 N _ _ _ _ _ _ _ _ _ = _
      unfold fX9_layLyndon_B5
      rw [if_neg (by rw [nI_ltI (by omega) (by omega)]; omega), q_1, o1]
      unfold fX9_layLyndon_J63
      rw [nzL_n hm1 (by omega), gd_t, q_inb13 (by omega), gd_t, nI_clamp (by omega), nI_1]
      exact g1
    · show fX9_layLyndon_B5 N _ _ _ _ _ _ _ _ _ = _
      unfold fX9_layLyndon_B5
      rw [if_neg (by rw [nI_ltI (by omega) (by omega)]; omega), q_1, o2]
      unfold fX9_layLyndon_J63
      rw [nzL_n hm1 (by omega), gd_t, q_inb13 (by omega), gd_t, nI_clamp (by omega), nI_1]
      exact g2
theorem ly45_H {N M : Nat} {Mn Mm Mn' Mm' Mh : Int32} {Y Y' : Nat → Int64} (hM : M ≤ 12) (hY : ∀ j, 1 ≤ j → j ≤ M → Y j = Y' j) : ∀ d p z s, p + d = M + 1 → 1 ≤ p → d < z → ∃ v, fX9_necklaces_H45 N Mn Mm z Mh Y (nI M) s (nI p) = some (v, Mh, Y) ∧ fX9_necklaces_H45 N Mn' Mm' z Mh Y' (nI M) s (nI p) = some (v, Mh, Y') := by
  intro d
  induction d with
  | zero =>
    intro p z s hp hp1 hz
    obtain ⟨z, rfl⟩ : ∃ y, z = y + 1 := ⟨z - 1, by omega⟩
    refine ⟨s, ?_, ?_⟩
    · show fX9_necklaces_B45 N _ _ _ _ _ _ _ _ = _
      unfold fX9_necklaces_B45
      rw [if_pos (by rw [nI_ltI (by omega) (by omega)]; omega)]
      rfl
    · show fX9_necklaces_B45 N _ _ _ _ _ _ _ _ = _
      unfold fX9_necklaces_B45
      rw [if_pos (by rw [nI_ltI (by omega) (by omega)]; omega)]
      rfl
  | succ d ih =>
    intro p z s hp hp1 hz
    obtain ⟨z, rfl⟩ : ∃ y, z = y + 1 := ⟨z - 1, by omega⟩
    have hmod : M % p < p := Nat.mod_lt _ (by omega)
    have step : ∀ (Mn Mm : Int32) (Y : Nat → Int64), fX9_necklaces_H45 N Mn Mm (z + 1) Mh Y (nI M) s (nI p) = if M % p = 0 then fX9_necklaces_H45 N Mn Mm z Mh Y (nI M) (s + Y p) (nI (p + 1)) else fX9_necklaces_H45 N Mn Mm z Mh Y (nI M) (s + (0 : Int64)) (nI (p + 1)) := by
      intro Mn Mm Y
      show fX9_necklaces_B45 N _ _ _ _ _ _ _ _ = _
      unfold fX9_necklaces_B45 fX9_necklaces_J70
      rw [if_neg (by rw [nI_ltI (by omega) (by omega)]; omega), q_nz (by omega) (by omega), gd_t, pk_rem (by omega) (by omega) (by omega), q_inb13 (by omega), gd_t, nI_clamp (by omega), nI_1]
      by_cases e : M % p = 0
      · rw [if_pos e, if_pos (by rw [e]; rfl)]
      · rw [if_neg e, if_neg (by rw [nI_z (by omega)]; exact e)]
    rw [step Mn Mm Y, step Mn' Mm' Y', ← hY p hp1 (by omega)]
    by_cases e : M % p = 0
    · rw [if_pos e, if_pos e]
      exact ih (p + 1) z _ (by omega) (by omega) (by omega)
    · rw [if_neg e, if_neg e]
      exact ih (p + 1) z _ (by omega) (by omega) (by omega)
def chkN (a b : Nat) : Bool := match fX4_necklaceCount 100000 (nI a) (nI b), fX9_layLyndon 100000 0 0 0 (fun _ => 0) (nI a) (nI b) with
  | some v, some Y => match fX9_necklaces_H45 100000 0 0 100000 0 Y (nI b) (0 : Int64) (1 : Int32), fX4_lyndonCount 100000 (nI a) (nI b) with
    | some (u, _, _), some x => decide (v = u) && decide (x = Y b)
    | _, _ => false
  | _, _ => false
theorem chkN_all : ∀ a : Fin 11, ∀ b : Fin 13, a.val = 0 ∨ b.val = 0 ∨ chkN a.val b.val = true := by decide +kernel
theorem chkN_at {a b : Nat} (ha1 : 1 ≤ a) (ha : a ≤ 10) (hb1 : 1 ≤ b) (hb : b ≤ 12) : ∃ v x Y, fX4_necklaceCount 100000 (nI a) (nI b) = some v ∧ fX4_lyndonCount 100000 (nI a) (nI b) = some x ∧ fX9_layLyndon 100000 0 0 0 (fun _ => 0) (nI a) (nI b) = some Y ∧ fX9_necklaces_H45 100000 0 0 100000 0 Y (nI b) (0 : Int64) (1 : Int32) = some (v, 0, Y) ∧ x = Y b := by
  have h : chkN a b = true := by
    rcases chkN_all ⟨a, by omega⟩ ⟨b, by omega⟩ with h | h | h
    · exact absurd h (show ¬ a = 0 by omega)
    · exact absurd h (show ¬ b = 0 by omega)
    · exact h
  obtain ⟨r, r2, g1, g2, g3⟩ := ly5_H (N := 100000) (Mh := 0) (Mn := 0) (Mm := 0) (Mh' := 0) (Mn' := 0) (Mm' := 0) (x1 := nI a) (by decide) hb b 1 100000 (1 : Int64) (fun _ => 0) (fun _ => 0) (by omega) (by omega) (by omega) (fun j h1 h2 => rfl)
  have e1 : fX9_layLyndon 100000 0 0 0 (fun _ => 0) (nI a) (nI b) = some r := g1
  obtain ⟨v, v1, v2⟩ := ly45_H (N := 100000) (Mn := 0) (Mm := 0) (Mn' := 0) (Mm' := 0) (Mh := 0) (Y := r) (Y' := r) hb (fun j h1 h2 => rfl) b 1 100000 (0 : Int64) (by omega) (by omega) (by omega)
  have e2 : fX9_necklaces_H45 100000 0 0 100000 0 r (nI b) (0 : Int64) (1 : Int32) = some (v, 0, r) := v1
  unfold chkN at h
  rw [e1] at h
  cases c1 : fX4_necklaceCount 100000 (nI a) (nI b) with
  | none => rw [c1] at h; exact absurd h (fun hh => Bool.noConfusion hh)
  | some y =>
    rw [c1] at h
    simp only [e2] at h
    cases c2 : fX4_lyndonCount 100000 (nI a) (nI b) with
    | none => rw [c2] at h; exact absurd h (fun hh => Bool.noConfusion hh)
    | some x =>
      rw [c2] at h
      simp only [Bool.and_eq_true, decide_eq_true_eq] at h
      exact ⟨y, x, r, rfl, rfl, e1, by rw [e2, h.1], h.2⟩
theorem ag_necklaces {n : Nat} (Oa : Nat → Int64) (Mh Mm p1 p2 : Int32) (My : Nat → Int64) : ∃ c oa r my, fL_necklaces 100000 Oa p1 p2 = some (c, oa) ∧ fX9_necklaces 100000 Mh (nI n) Mm My p1 p2 = some (r, c, my) ∧ (c = 0 → oa 0 = r) := by
  unfold fL_necklaces fX8_necklaces fX9_necklaces
  rcases arg_cases 100000 p1 (1 : Int32) (10 : Int32) 1 10 rfl rfl (by decide) with ⟨a, rfl, ha1, ha, g1, g2⟩ | ⟨g1, g2⟩
  · rw [g1, g2, bx_r, bn_s, if_neg n1_0]
    rcases arg_cases 100000 p2 (1 : Int32) (12 : Int32) 1 12 rfl rfl (by decide) with ⟨b, rfl, hb1, hb, k1, k2⟩ | ⟨k1, k2⟩
    · obtain ⟨v, x, Y, c1, c2, c3, c4, c5⟩ := chkN_at ha1 ha hb1 hb
      obtain ⟨r, r2, e1, e2, e3⟩ := ly5_H (N := 100000) (Mh := 0) (Mn := nI n) (Mm := Mm) (Mh' := 0) (Mn' := 0) (Mm' := 0) (x1 := nI a) (by decide) hb b 1 100000 (1 : Int64) My (fun _ => 0) (by omega) (by omega) (by omega) (fun j h1 h2 => by omega)
      have e4 : fX9_layLyndon 100000 0 (nI n) Mm My (nI a) (nI b) = some r := e1
      have e5 : fX9_layLyndon 100000 0 0 0 (fun _ => 0) (nI a) (nI b) = some r2 := e2
      have e6 : r2 = Y := by rw [c3] at e5; exact (Option.some.inj e5).symm
      subst e6
      obtain ⟨v2, v3, v4⟩ := ly45_H (N := 100000) (Mn := nI n) (Mm := Mm) (Mn' := 0) (Mm' := 0) (Mh := 0) (Y := r) (Y' := r2) hb e3 b 1 100000 (0 : Int64) (by omega) (by omega) (by omega)
      have v5 : fX9_necklaces_H45 100000 (nI n) Mm 100000 0 r (nI b) (0 : Int64) (1 : Int32) = some (v2, 0, r) := v3
      have v6 : fX9_necklaces_H45 100000 0 0 100000 0 r2 (nI b) (0 : Int64) (1 : Int32) = some (v2, 0, r2) := v4
      have v7 : v2 = v := by
        rw [c4] at v6
        have := Option.some.inj v6
        exact (congrArg Prod.fst this).symm
      rw [k1, k2, bx_r, bn_s, if_neg n1_0, c1]
      unfold fX9_necklaces_J26
      rw [goesB, if_neg i10, e4, bn_s]
      exact ⟨_, _, v2, r, rfl, v5, fun _ => (oa_1 _ _).trans v7.symm⟩
    · rw [k1, k2, bn_s, if_pos n0_0]
      unfold fX9_necklaces_J25 fX9_necklaces_J26
      rw [goesB1, if_pos rfl]
      exact ⟨_, _, _, _, rfl, rfl, fun hh => absurd hh (by decide)⟩
  · rw [g1, g2, bn_s, if_pos n0_0]
    unfold fX9_necklaces_J25 fX9_necklaces_J26
    rw [goesB1, if_pos rfl]
    exact ⟨_, _, _, _, rfl, rfl, fun hh => absurd hh (by decide)⟩
theorem ag_lyndonWords {n : Nat} (Oa : Nat → Int64) (Mh Mm p1 p2 : Int32) (My : Nat → Int64) : ∃ c oa r my, fL_lyndonWords 100000 Oa p1 p2 = some (c, oa) ∧ fX9_lyndonWords 100000 Mh (nI n) Mm My p1 p2 = some (r, c, my) ∧ (c = 0 → oa 0 = r) := by
  unfold fL_lyndonWords fX8_lyndonWords fX9_lyndonWords
  rcases arg_cases 100000 p1 (1 : Int32) (10 : Int32) 1 10 rfl rfl (by decide) with ⟨a, rfl, ha1, ha, g1, g2⟩ | ⟨g1, g2⟩
  · rw [g1, g2, bx_r, bn_s, if_neg n1_0]
    rcases arg_cases 100000 p2 (1 : Int32) (12 : Int32) 1 12 rfl rfl (by decide) with ⟨b, rfl, hb1, hb, k1, k2⟩ | ⟨k1, k2⟩
    · obtain ⟨v, x, Y, c1, c2, c3, c4, c5⟩ := chkN_at ha1 ha hb1 hb
      obtain ⟨r, r2, e1, e2, e3⟩ := ly5_H (N := 100000) (Mh := 0) (Mn := nI n) (Mm := Mm) (Mh' := 0) (Mn' := 0) (Mm' := 0) (x1 := nI a) (by decide) hb b 1 100000 (1 : Int64) My (fun _ => 0) (by omega) (by omega) (by omega) (fun j h1 h2 => by omega)
      have e4 : fX9_layLyndon 100000 0 (nI n) Mm My (nI a) (nI b) = some r := e1
      have e5 : fX9_layLyndon 100000 0 0 0 (fun _ => 0) (nI a) (nI b) = some r2 := e2
      have e6 : r2 = Y := by rw [c3] at e5; exact (Option.some.inj e5).symm
      subst e6
      rw [k1, k2, bx_r, bn_s, if_neg n1_0, c2]
      unfold fX9_lyndonWords_J26
      rw [goesB, if_neg i10, e4, q_inb13 (show b < 13 by omega)]
      exact ⟨_, _, r (nI b).toNatClampNeg, r, rfl, rfl, fun _ => (oa_1 _ _).trans (by
        show x = r (nI b).toNatClampNeg
        rw [nI_clamp (by omega), c5, e3 b hb1 (Nat.le_refl b)])⟩
    · rw [k1, k2, bn_s, if_pos n0_0]
      unfold fX9_lyndonWords_J25 fX9_lyndonWords_J26
      rw [goesB1, if_pos rfl]
      exact ⟨_, _, _, _, rfl, rfl, fun hh => absurd hh (by decide)⟩
  · rw [g1, g2, bn_s, if_pos n0_0]
    unfold fX9_lyndonWords_J25 fX9_lyndonWords_J26
    rw [goesB1, if_pos rfl]
    exact ⟨_, _, _, _, rfl, rfl, fun hh => absurd hh (by decide)⟩
