/-! de Bruijn texts: what was in the rows before says nothing; then by the kernel, for all letters up to 8 and lengths up to 6 -/
def Ag (k : Nat) (f g : Nat → Int32) : Prop := ∀ j, j < k → f j = g j
/-- two runs that search the next word: they end alike -/
def OR3 (o o' : Option (Int32 × (Nat → Int32) × (Nat → Int32))) : Prop := (o = none ∧ o' = none) ∨ ∃ b w l w' l', o = some (nI b, w, l) ∧ o' = some (nI b, w', l') ∧ b ≤ 8 ∧ Ag b l l'
theorem pow_88 {L m : Nat} (hL : L ≤ 8) (hm : m ≤ 8) : L ^ m ≤ 16777216 := by
  have h1 : L ^ m ≤ 8 ^ m := Nat.pow_le_pow_left hL m
  have h2 : 8 ^ m ≤ 8 ^ 8 := Nat.pow_le_pow_right (by decide) hm
  have h3 : 8 ^ 8 = 16777216 := by decide
  omega
/-- two runs of the whole loading, on the reference's side -/
def OR6 (o o' : Option (Int32 × Int32 × Int32 × (Nat → Int32) × (Nat → Int32) × (Nat → Int32))) : Prop := (o = none ∧ o' = none) ∨ ∃ r c t f w l f' w' l', o = some (r, c, nI t, f, w, l) ∧ o' = some (r, c, nI t, f', w', l') ∧ t ≤ 64 ∧ Ag t f f'
/-! the program's side -/
theorem push_rel {N t : Nat} {v : Int32} {f f' : Nat → Int32} (hN : 100 ≤ N) (ht : t ≤ 64) (hf : Ag t f f') : ∃ t2 g g', fX2_push N (nI t) f v = some (nI t2, g) ∧ fX2_push N (nI t) f' v = some (nI t2, g') ∧ t2 ≤ 64 ∧ Ag t2 g g' := by
  by_cases e : t < 64
  · obtain ⟨g, g1, g2, g3, g4⟩ := push_nI (v := v) hN e f
    obtain ⟨g', g5, g6, g7, g8⟩ := push_nI (v := v) hN e f'
    refine ⟨t + 1, g, g', g1, g5, by omega, fun j hj => ?_⟩
    by_cases e2 : j = t
    · rw [e2, g2, g6]
    · rw [g3 j (by omega), g7 j (by omega)]; exact hf j (by omega)
  · have hc : (64 : Int32) ≤ nI t := by rw [q_64, nI_leI (by omega) (by omega)]; omega
    refine ⟨t, f, f', ?_, ?_, ht, hf⟩
    · unfold fX2_push fX2_open
      rw [if_pos hc]; rfl
    · unfold fX2_push fX2_open
      rw [if_pos hc]; rfl
theorem pw_rel {N : Nat} {g z0 w r : Int32} (hN : 100 ≤ N) : ∀ z t f f' x1 x2, t ≤ 64 → Ag t f f' → (fX8_pushFromWalk_H2 N g z0 w r z (nI t) f x1 x2 = none ∧ fX8_pushFromWalk_H2 N g z0 w r z (nI t) f' x1 x2 = none) ∨ ∃ t2 h h', fX8_pushFromWalk_H2 N g z0 w r z (nI t) f x1 x2 = some (nI t2, h) ∧ fX8_pushFromWalk_H2 N g z0 w r z (nI t) f' x1 x2 = some (nI t2, h') ∧ t2 ≤ 64 ∧ Ag t2 h h' := by
  intro z
  induction z with
  | zero => intro t f f' x1 x2 ht hf; exact Or.inl ⟨rfl, rfl⟩
  | succ z ih =>
    intro t f f' x1 x2 ht hf
    have hs : ∀ f, fX8_pushFromWalk_H2 N g z0 w r (z + 1) (nI t) f x1 x2 = fX8_pushFromWalk_B2 N g z0 w r (fX8_pushFromWalk_H2 N g z0 w r z) (nI t) f x1 x2 := fun f => rfl
    rw [hs, hs]
    unfold fX8_pushFromWalk_B2
    by_cases e : x1 ≤ x2
    · rw [if_pos e, if_pos e]
      exact Or.inr ⟨t, f, f', rfl, rfl, ht, hf⟩
    · rw [if_neg e, if_neg e]
      unfold fX3_letter
      rw [bn_s, bn_s]
      obtain ⟨t2, h, h', h1, h2, h3, h4⟩ := push_rel (v := (w >>> (((3 : Int32) * ((z0 - (1 : Int32)) - x2)) &&& 31)) &&& (7 : Int32)) hN ht hf
      rw [h1, h2, bn_s, bn_s]
      exact ih t2 h h' x1 (x2 + 1) h3 h4
def OR7 (o o' : Option ((Nat × Int32 × (Nat → Int32) × Int32 × Int32 × Int32 × Int32) ⊕ (Int32 × Int32 × (Nat → Int32) × Int32 × Int32 × Int32 × Int32))) : Prop := (o = none ∧ o' = none) ∨ ∃ t f f' s1 s2 s3 s4, o = some (.inr (nI t, nI t, f, s1, s2, s3, s4)) ∧ o' = some (.inr (nI t, nI t, f', s1, s2, s3, s4)) ∧ t ≤ 64 ∧ Ag t f f'
theorem db57_H {N : Nat} (hN : 100 ≤ N) : ∀ z t f f' g z0 w r x3 x4, t ≤ 64 → Ag t f f' → OR7 (fX8_loadDeBruijn_H57 N z (nI t) f g z0 w r x3 x4) (fX8_loadDeBruijn_H57 N z (nI t) f' g z0 w r x3 x4) := by
  intro z
  induction z with
  | zero => intro t f f' g z0 w r x3 x4 ht hf; exact Or.inl ⟨rfl, rfl⟩
  | succ z ih =>
    intro t f f' g z0 w r x3 x4 ht hf
    have hs : ∀ f, fX8_loadDeBruijn_H57 N (z + 1) (nI t) f g z0 w r x3 x4 = fX8_loadDeBruijn_B57 N (fX8_loadDeBruijn_H57 N z) (nI t) f g z0 w r x3 x4 := fun f => rfl
    rw [hs, hs]
    unfold fX8_loadDeBruijn_B57
    have hend : OR7 (fX8_loadDeBruijn_J93 N (nI t) f g z0 w r) (fX8_loadDeBruijn_J93 N (nI t) f' g z0 w r) := Or.inr ⟨t, f, f', g, z0, w, r, rfl, rfl, ht, hf⟩
    by_cases e : x3 = 0
    · rw [if_pos e, if_pos e]; exact hend
    · rw [if_neg e, if_neg e]
      by_cases e2 : (64 : Int32) ≤ x4
      · rw [if_pos e2, if_pos e2]; exact hend
      · rw [if_neg e2, if_neg e2]
        unfold fX3_root fX8_pushFromWalk
        rw [bn_s, bn_s]
        rcases pw_rel (g := g) (z0 := z0) (w := w) (r := r) hN N t f f' r (0 : Int32) ht hf with ⟨h1, h2⟩ | ⟨t2, h, h', h1, h2, h3, h4⟩
        · rw [h1, h2]; exact Or.inl ⟨rfl, rfl⟩
        · rw [h1, h2, bn_s, bn_s]
          cases fX3_toNextNecklace N g z0 w r with
          | none => exact Or.inl ⟨rfl, rfl⟩
          | some v =>
            rw [bn_s, bn_s]
            exact ih t2 h h' g z0 _ _ _ _ h3 h4
def chkDt (ta mt : Nat → Int32) : Nat → Bool
  | 0 => true
  | j + 1 => if ta j = mt j then if ta j = nI (ta j).toNatClampNeg then if (ta j).toNatClampNeg ≤ 25 then chkDt ta mt j else false else false else false
theorem chkDt_ok {ta mt : Nat → Int32} : ∀ t, chkDt ta mt t = true → ∀ j, j < t → mt j = ta j ∧ ∃ v, v ≤ 25 ∧ ta j = nI v := by
  intro t
  induction t with
  | zero => intro h j hj; omega
  | succ t ih =>
    intro h j hj
    rw [chkDt] at h
    by_cases e1 : ta t = mt t
    · rw [if_pos e1] at h
      by_cases e2 : ta t = nI (ta t).toNatClampNeg
      · rw [if_pos e2] at h
        by_cases e3 : (ta t).toNatClampNeg ≤ 25
        · rw [if_pos e3] at h
          by_cases e : j = t
          · rw [e]; exact ⟨e1.symm, _, e3, e2⟩
          · exact ih h j (by omega)
        · rw [if_neg e3] at h; exact absurd h (fun hh => Bool.noConfusion hh)
      · rw [if_neg e2] at h; exact absurd h (fun hh => Bool.noConfusion hh)
    · rw [if_neg e1] at h; exact absurd h (fun hh => Bool.noConfusion hh)
theorem db_begin {N : Nat} {Tn Wg Wz Ww Wr p q : Int32} {α : Type} (H : Int32 → Int32 → Int32 → Int32 → Int32 → Option α) : (bn (fX2_empty N Tn) fun v40 => bn (fX3_begin N Wg Wz Ww Wr p q) fun v49 => H v40 v49.1 v49.2.1 v49.2.2.1 v49.2.2.2) = H (nI 0) (p - 1) q 0 1 := rfl
