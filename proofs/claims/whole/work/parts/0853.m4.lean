/-! the checks, on both sides -/
theorem q_5 : (5 : Int32) = nI 5 := rfl
theorem i_lt0 {x : Int32} : x < 0 ∨ ∃ a : Nat, a < 2 ^ 31 ∧ x = nI a := by
  by_cases h : x < 0
  · exact Or.inl h
  · exact Or.inr (nI_of h)
theorem in_1 (N : Nat) : fX9_in_J15 N (1 : Int32) = some (nI 1) := rfl
theorem in_0 (N : Nat) : fX9_in_J14 N = some (nI 0) := rfl
theorem arg_cases (N : Nat) (p lo hi : Int32) (l h : Nat) (hl : lo = nI l) (hh : hi = nI h) (hb : l ≤ h ∧ h < 2 ^ 31) : (∃ a, p = nI a ∧ l ≤ a ∧ a ≤ h ∧ fX8_checkArgument N p lo hi = some (.inr ()) ∧ fX9_in N p lo hi = some (nI 1)) ∨ (fX8_checkArgument N p lo hi = some (.inl 1) ∧ fX9_in N p lo hi = some (nI 0)) := by
  subst hl hh
  unfold fX8_checkArgument fX9_in
  rcases i_lt0 (x := p) with h0 | ⟨a, ha, rfl⟩
  · right
    have h1 : p < nI l := by
      rw [Int32.lt_iff_toInt_lt] at h0 ⊢
      rw [nI_toInt (by omega)]
      have : (0 : Int32).toInt = 0 := rfl
      omega
    rw [if_pos h1, if_pos h1]
    exact ⟨rfl, in_0 N⟩
  · by_cases h1 : a < l
    · right
      rw [if_pos ((nI_ltI ha (by omega)).mpr h1), if_pos ((nI_ltI ha (by omega)).mpr h1)]
      exact ⟨rfl, in_0 N⟩
    · rw [if_neg (fun hh => h1 ((nI_ltI ha (by omega)).mp hh)), if_neg (fun hh => h1 ((nI_ltI ha (by omega)).mp hh))]
      by_cases h2 : a ≤ h
      · left
        rw [if_pos ((nI_leI ha (by omega)).mpr h2), if_neg (fun hh => by have := (nI_ltI (by omega) ha).mp hh; omega)]
        exact ⟨a, rfl, by omega, h2, rfl, in_1 N⟩
      · right
        rw [if_neg (fun hh => h2 ((nI_leI ha (by omega)).mp hh)), if_pos ((nI_ltI (by omega) ha).mpr (by omega))]
        exact ⟨rfl, in_0 N⟩
/-- an index below c -/
theorem index_cases (N : Nat) (p : Int32) (c : Nat) (hc : c < 2 ^ 30) : (∃ a, p = nI a ∧ a < c ∧ fX8_checkIndex N p (nI c) = some (.inr ()) ∧ fX9_in N p (0 : Int32) (nI c - nI 1) = some (nI 1)) ∨ (fX8_checkIndex N p (nI c) = some (.inl 0) ∧ fX9_in N p (0 : Int32) (nI c - nI 1) = some (nI 0)) := by
  unfold fX8_checkIndex fX9_in
  rcases i_lt0 (x := p) with h0 | ⟨a, ha, rfl⟩
  · right
    rw [if_pos h0, if_pos h0]
    exact ⟨rfl, in_0 N⟩
  · have hz : ¬ nI a < 0 := nI_pos ha
    rw [if_neg hz, if_neg hz]
    have hd := d_toInt (a := c) (b := 1) (by omega) (by omega)
    have hlt : nI c - nI 1 < nI a ↔ ¬ a < c := by
      rw [Int32.lt_iff_toInt_lt, hd, nI_toInt ha]; omega
    by_cases h1 : a < c
    · left
      rw [if_pos ((nI_ltI ha (by omega)).mpr h1), if_neg (fun hh => hlt.mp hh h1)]
      exact ⟨a, rfl, h1, rfl, in_1 N⟩
    · right
      rw [if_neg (fun hh => h1 ((nI_ltI ha (by omega)).mp hh)), if_pos (hlt.mpr h1)]
      exact ⟨rfl, in_0 N⟩
theorem isPlace_in (N : Nat) (Mh Mn Mm p : Int32) {v : Int32} (h : fX9_in N p (0 : Int32) (Mn - nI 1) = some v) (hv : isB v = true) : fX9_isPlace N Mh Mn Mm p = some v := by
  unfold fX9_isPlace
  rw [q_1, h, bn_s, hv]
  rfl
theorem place_cases (N : Nat) (p : Int32) (n : Nat) (hn : n ≤ 64) : (∃ a, p = nI a ∧ a < n ∧ fX8_checkIndex N p (nI n) = some (.inr ()) ∧ ∀ Mh Mm, fX9_isPlace N Mh (nI n) Mm p = some (nI 1)) ∨ (fX8_checkIndex N p (nI n) = some (.inl 0) ∧ ∀ Mh Mm, fX9_isPlace N Mh (nI n) Mm p = some (nI 0)) := by
  rcases index_cases N p n (by omega) with ⟨a, h1, h2, h3, h4⟩ | ⟨h3, h4⟩
  · exact Or.inl ⟨a, h1, h2, h3, fun _ _ => isPlace_in N _ _ _ _ h4 q_b1⟩
  · exact Or.inr ⟨h3, fun _ _ => isPlace_in N _ _ _ _ h4 q_b0⟩
/-- an index up to n -/
theorem upto_cases (N : Nat) (p : Int32) (n : Nat) (hn : n ≤ 64) : (∃ a, p = nI a ∧ a ≤ n ∧ fX8_checkIndex N p (nI n + (1 : Int32)) = some (.inr ()) ∧ fX9_in N p (0 : Int32) (nI n) = some (nI 1)) ∨ (fX8_checkIndex N p (nI n + (1 : Int32)) = some (.inl 0) ∧ fX9_in N p (0 : Int32) (nI n) = some (nI 0)) := by
  rw [nI_1]
  have hs : nI (n + 1) - nI 1 = nI n := by rw [q_sub (by omega)]; congr 1
  rcases index_cases N p (n + 1) (by omega) with ⟨a, h1, h2, h3, h4⟩ | ⟨h3, h4⟩
  · rw [hs] at h4
    exact Or.inl ⟨a, h1, by omega, h3, h4⟩
  · rw [hs] at h4
    exact Or.inr ⟨h3, h4⟩
theorem part_cases (N : Nat) (p1 p2 : Int32) (n : Nat) (hn : n ≤ 64) : (∃ a b, p1 = nI a ∧ p2 = nI b ∧ a < b ∧ b ≤ n ∧ fX8_checkPart N (nI n) p1 p2 = some (.inr ()) ∧ ∀ Mh Mm, fX9_isPart N Mh (nI n) Mm p1 p2 = some (nI 1)) ∨ (fX8_checkPart N (nI n) p1 p2 = some (.inl 0) ∧ ∀ Mh Mm, fX9_isPart N Mh (nI n) Mm p1 p2 = some (nI 0)) := by
  unfold fX8_checkPart fX9_isPart
  by_cases h0 : p1 < 0
  · right
    rw [if_pos h0]
    refine ⟨rfl, fun _ _ => ?_⟩
    rw [if_pos h0]; rfl
  · by_cases h1 : p2 ≤ p1
    · right
      rw [if_neg h0, if_pos h1]
      refine ⟨rfl, fun _ _ => ?_⟩
      rw [if_neg h0, if_pos h1]; rfl
    · obtain ⟨a, ha, rfl⟩ := nI_of h0
      have h2 : ¬ p2 < 0 := by
        intro hh
        rw [Int32.le_iff_toInt_le] at h1
        rw [Int32.lt_iff_toInt_lt] at hh
        rw [nI_toInt ha] at h1
        have : (0 : Int32).toInt = 0 := rfl
        omega
      obtain ⟨b, hb, rfl⟩ := nI_of h2
      rw [nI_leI hb ha] at h1
      rw [if_neg h0, if_neg (by rw [nI_leI hb ha]; exact h1)]
      by_cases h3 : b ≤ n
      · left
        refine ⟨a, b, rfl, rfl, by omega, h3, ?_, fun _ _ => ?_⟩
        · show (if nI b ≤ nI n then _ else _) = _
          rw [if_pos ((nI_leI hb (by omega)).mpr h3)]
        · rw [if_neg h0, if_neg (by rw [nI_leI hb ha]; exact h1), if_neg (by rw [nI_ltI (by omega) hb]; omega)]; rfl
      · right
        refine ⟨?_, fun _ _ => ?_⟩
        · show (if nI b ≤ nI n then _ else _) = _
          rw [if_neg (by rw [nI_leI hb (by omega)]; exact h3)]; rfl
        · rw [if_neg h0, if_neg (by rw [nI_leI hb ha]; exact h1), if_pos (by rw [nI_ltI (by omega) hb]; omega)]; rfl
theorem goes_0 (N : Nat) (Mh Mn Mm : Int32) : fX9_goesWell N Mh Mn Mm (0 : Int32) = some ((1 : Int32), (0 : Int32)) := rfl
theorem goes_1 (N : Nat) (Mh Mn Mm : Int32) : fX9_goesWell N Mh Mn Mm (1 : Int32) = some ((0 : Int32), (1 : Int32)) := rfl
theorem goes_2 (N : Nat) (Mh Mn Mm : Int32) : fX9_goesWell N Mh Mn Mm (2 : Int32) = some ((0 : Int32), (2 : Int32)) := rfl
theorem goes_3 (N : Nat) (Mh Mn Mm : Int32) : fX9_goesWell N Mh Mn Mm (3 : Int32) = some ((0 : Int32), (3 : Int32)) := rfl
theorem n1_0 : ¬ (nI 1 = 0) := by decide
theorem n0_0 : nI 0 = 0 := rfl
theorem room_yes {N n m : Nat} (h : n + m ≤ 64) : fX8_checkRoom N (nI n) (nI m) = some (.inr ()) := by
  show (if nI n + nI m ≤ nI 64 then _ else _) = _
  rw [nI_add, if_pos ((nI_leI (by omega) (by omega)).mpr h)]
theorem room_no {N n m : Nat} (h : ¬ n + m ≤ 64) (hm : n + m < 2 ^ 31) : fX8_checkRoom N (nI n) (nI m) = some (.inl 2) := by
  show (if nI n + nI m ≤ nI 64 then _ else _) = _
  rw [nI_add, if_neg (by rw [nI_leI (by omega) (by omega)]; exact h)]
/-- one text, held by two rows -/
def Two (n : Nat) (f g : Nat → Int32) : Prop := n ≤ 64 ∧ ∀ j, j < n → g j = f j ∧ ∃ v, v ≤ 25 ∧ f j = nI v
theorem Two.rp {n : Nat} {f g : Nat → Int32} (h : Two n f g) : ∃ w, Rp n w f ∧ Rp n w g := by
  refine ⟨fun j => (f j).toNatClampNeg, ⟨h.1, fun j hj => ?_⟩, ⟨h.1, fun j hj => ?_⟩⟩
  · obtain ⟨h1, v, h2, h3⟩ := h.2 j hj
    show f j = nI (f j).toNatClampNeg ∧ (f j).toNatClampNeg ≤ 25
    rw [h3, nI_clamp (by omega)]
    exact ⟨rfl, h2⟩
  · obtain ⟨h1, v, h2, h3⟩ := h.2 j hj
    show g j = nI (f j).toNatClampNeg ∧ (f j).toNatClampNeg ≤ 25
    rw [h1, h3, nI_clamp (by omega)]
    exact ⟨rfl, h2⟩
/-! edits, on both sides -/
theorem Two.le {n : Nat} {f g : Nat → Int32} (h : Two n f g) : n ≤ 64 := h.1
theorem Two.eq {n : Nat} {f g : Nat → Int32} (h : Two n f g) {j : Nat} (hj : j < n) : g j = f j := (h.2 j hj).1
/-- what opening a place does to a row -/
def OpenAt (n a : Nat) (v : Int32) (f g : Nat → Int32) : Prop := g a = v ∧ (∀ j, j < a → g j = f j) ∧ ∀ j, a < j → j ≤ n → g j = f (j - 1)
theorem two_open {n a l : Nat} {f g f2 g2 : Nat → Int32} (h : Two n f g) (hn : n < 64) (ha : a ≤ n) (hl : l ≤ 25) (h1 : OpenAt n a (nI l) f f2) (h2 : OpenAt n a (nI l) g g2) : Two (n + 1) f2 g2 := by
  refine ⟨by omega, fun j hj => ?_⟩
  rcases Nat.lt_trichotomy j a with h3 | h3 | h3
  · rw [h1.2.1 j h3, h2.2.1 j h3]; exact h.2 j (by omega)
  · rw [h3, h1.1, h2.1]; exact ⟨rfl, l, hl, rfl⟩
  · rw [h1.2.2 j h3 (by omega), h2.2.2 j h3 (by omega)]; exact h.2 (j - 1) (by omega)
theorem open_H {N n a : Nat} {v : Int32} (hn : n < 64) (ha : a ≤ n) : ∀ d k z (f : Nat → Int32), a + d = k → k ≤ n → d < z → ∃ g, fX2_open_H14 N z (nI n) f (nI a) v (nI k) = some (nI (n + 1), g) ∧ g a = v ∧ (∀ j, j < a → g j = f j) ∧ (∀ j, a < j → j ≤ k → g j = f (j - 1)) ∧ ∀ j, k < j → g j = f j := by
  intro d
  induction d with
  | zero =>
    intro k z f hk hkn hz
    obtain ⟨z, rfl⟩ : ∃ y, z = y + 1 := ⟨z - 1, by omega⟩
    refine ⟨upd f a v, ?_, pk_us, fun j hj => pk_un (by omega), fun j h1 h2 => by omega, fun j hj => pk_un (by omega)⟩
    show fX2_open_B14 N _ _ _ _ _ _ = _
    unfold fX2_open_B14
    rw [if_pos (by rw [nI_leI (by omega) (by omega)]; omega)]
    unfold fX2_open_J43
    rw [put_nI (by omega) (by decide), bn_s, nI_1]
    rfl
  | succ d ih =>
    intro k z f hk hkn hz
    obtain ⟨z, rfl⟩ : ∃ y, z = y + 1 := ⟨z - 1, by omega⟩
    obtain ⟨g, h1, h2, h3, h4, h5⟩ := ih (k - 1) z (upd f k (f (k - 1))) (by omega) (by omega) (by omega)
    refine ⟨g, ?_, h2, fun j hj => (h3 j hj).trans (pk_un (by omega)), fun j g1 g2 => ?_, fun j hj => (h5 j (by omega)).trans (pk_un (by omega))⟩
    · show fX2_open_B14 N _ _ _ _ _ _ = _
      unfold fX2_open_B14
      rw [if_neg (by rw [nI_leI (by omega) (by omega)]; omega), q_1, q_sub (by omega), at_nI (by omega) (by decide), bn_s, put_nI (by omega) (by decide), bn_s]
      show fX2_open_H14 N z _ _ _ _ (nI k + -nI 1) = _
      rw [q_m1 (by omega)]
      exact h1
    · by_cases e : j = k
      · rw [e, h5 k (by omega)]; exact pk_us
      · rw [h4 j g1 (by omega)]; exact pk_un (by omega)
theorem open_nI {N n a : Nat} {v : Int32} (hN : 100 ≤ N) (hn : n < 64) (ha : a ≤ n) (f : Nat → Int32) : ∃ g, fX2_open N (nI n) f (nI a) v = some (nI (n + 1), g) ∧ OpenAt n a v f g := by
  obtain ⟨g, h1, h2, h3, h4, h5⟩ := open_H (N := N) (v := v) hn ha (n - a) n N f (by omega) (by omega) (by omega)
  refine ⟨g, ?_, h2, h3, h4⟩
  unfold fX2_open
  rw [if_neg (by rw [q_64, nI_leI (by omega) (by omega)]; omega)]
  exact h1
theorem push_nI {N n : Nat} {v : Int32} (hN : 100 ≤ N) (hn : n < 64) (f : Nat → Int32) : ∃ g, fX2_push N (nI n) f v = some (nI (n + 1), g) ∧ OpenAt n n v f g := by
  obtain ⟨g, h1, h2⟩ := open_nI (v := v) hN hn (Nat.le_refl n) f
  refine ⟨g, ?_, h2⟩
  unfold fX2_push
  rw [h1, bn_s]
theorem openAt_upd {n : Nat} {v : Int32} {f : Nat → Int32} : OpenAt n n v f (upd f n v) := ⟨pk_us, fun j hj => pk_un (by omega), fun j h1 h2 => by omega⟩
/-- what the law sees: the answers agree and the texts stay one -/
def TwoR (n : Int32) (f : Nat → Int32) (mn : Int32) (g : Nat → Int32) : Prop := ∃ k, n = nI k ∧ mn = nI k ∧ Two k f g
theorem oa_1 (Oa : Nat → Int64) (v : Int64) : (vp_updL Oa ((0 : Int32)).toNatClampNeg v) 0 = v := pk_uLs
theorem inb01 : inb (0 : Int32) 1 = true := by decide
theorem ag_append {N n : Nat} {Ta Mt : Nat → Int32} (hN : 100 ≤ N) (h : Two n Ta Mt) (Oa : Nat → Int64) (Mh Mm p1 : Int32) : ∃ c tn ta oa r mn mt, fL_append N (nI n) Ta Oa p1 = some (c, tn, ta, oa) ∧ fX9_append N Mh (nI n) Mm Mt p1 = some (r, c, mn, mt) ∧ TwoR tn ta mn mt ∧ (c = 0 → oa 0 = r.toInt64) := by
  have hn := h.le
  unfold fL_append fX8_append fX9_append
  rcases arg_cases N p1 (0 : Int32) (25 : Int32) 0 25 rfl rfl (by decide) with ⟨l, rfl, _, hl, h1, h2⟩ | ⟨h1, h2⟩
  · rw [h1, h2, bx_r, bn_s, if_neg n1_0]
    by_cases hr : n < 64
    · obtain ⟨g, h3, h4⟩ := push_nI (v := nI l) hN hr Ta
      rw [if_neg (by rw [q_64, nI_eq (by omega) (by omega)]; omega), q_1, room_yes (by omega), bx_r, h3]
      unfold fX9_append_J29
      rw [goes_0]
      refine ⟨_, _, _, _, nI n + 1, _, _, rfl, ?_, ⟨n + 1, rfl, nI_1 n, two_open h hr (Nat.le_refl n) hl h4 openAt_upd⟩, fun _ => (oa_1 _ _).trans ?_⟩
      · rw [bn_s, if_neg (by decide), q_inb hr (by decide), gd_t, nI_clamp (by omega)]
      · rw [nI_1]
    · rw [if_pos (by rw [q_64, nI_eq (by omega) (by omega)]; omega), q_1, room_no (by omega) (by omega)]
      unfold fX9_append_J29
      rw [goes_2]
      exact ⟨_, _, _, _, _, _, _, rfl, rfl, ⟨n, rfl, rfl, h⟩, fun hh => absurd hh (by decide)⟩
  · rw [h1, h2, bn_s, if_pos n0_0]
    unfold fX9_append_J29
    rw [goes_1]
    exact ⟨_, _, _, _, _, _, _, rfl, rfl, ⟨n, rfl, rfl, h⟩, fun hh => absurd hh (by decide)⟩
theorem goesB {α : Type} (N : Nat) (Mh Mn Mm : Int32) (k : Int32 × Int32 → Option α) : bn (fX9_goesWell N Mh Mn Mm (0 : Int32)) k = k ((1 : Int32), (0 : Int32)) := rfl
theorem i10 : ¬ ((1 : Int32) = 0) := by decide
theorem q_inb' {a : Nat} (h : a < 64) : inb (nI a) 64 = true := q_inb h (by decide)
theorem insertM_H {N n a l : Nat} {Mm Mh : Int32} (hn : n < 64) (ha : a ≤ n) : ∀ d k z (f : Nat → Int32), a + d = k → k ≤ n → d < z → ∃ g, fX9_insert_H58 N Mm z Mh (nI n) f (nI a) (nI l) (nI k) = some (nI n + 1, Mh, nI n + 1, g) ∧ g a = nI l ∧ (∀ j, j < a → g j = f j) ∧ (∀ j, a < j → j ≤ k → g j = f (j - 1)) ∧ ∀ j, k < j → g j = f j := by
  intro d
  induction d with
  | zero =>
    intro k z f hk hkn hz
    obtain ⟨z, rfl⟩ : ∃ y, z = y + 1 := ⟨z - 1, by omega⟩
    refine ⟨upd f a (nI l), ?_, pk_us, fun j hj => pk_un (by omega), fun j h1 h2 => by omega, fun j hj => pk_un (by omega)⟩
    show fX9_insert_B58 N _ _ _ _ _ _ _ _ = _
    unfold fX9_insert_B58
    rw [if_pos (by rw [nI_leI (by omega) (by omega)]; omega)]
    unfold fX9_insert_J83
    rw [q_inb' (by omega), gd_t, nI_clamp (by omega)]
  | succ d ih =>
    intro k z f hk hkn hz
    obtain ⟨z, rfl⟩ : ∃ y, z = y + 1 := ⟨z - 1, by omega⟩
    obtain ⟨g, h1, h2, h3, h4, h5⟩ := ih (k - 1) z (upd f k (f (k - 1))) (by omega) (by omega) (by omega)
    refine ⟨g, ?_, h2, fun j hj => (h3 j hj).trans (pk_un (by omega)), fun j g1 g2 => ?_, fun j hj => (h5 j (by omega)).trans (pk_un (by omega))⟩
    · show fX9_insert_B58 N _ _ _ _ _ _ _ _ = _
      unfold fX9_insert_B58
      rw [if_neg (by rw [nI_leI (by omega) (by omega)]; omega), q_1, q_sub (by omega), q_inb' (by omega), gd_t, q_inb' (by omega), gd_t, nI_clamp (by omega), nI_clamp (by omega)]
      show fX9_insert_H58 N Mm z _ _ _ _ _ (nI k + -nI 1) = _
      rw [q_m1 (by omega)]
      exact h1
    · by_cases e : j = k
      · rw [e, h5 k (by omega)]; exact pk_us
      · rw [h4 j g1 (by omega)]; exact pk_un (by omega)
theorem ag_insert {N n : Nat} {Ta Mt : Nat → Int32} (hN : 100 ≤ N) (h : Two n Ta Mt) (Oa : Nat → Int64) (Mh Mm p1 p2 : Int32) : ∃ c tn ta oa r mn mt, fL_insert N (nI n) Ta Oa p1 p2 = some (c, tn, ta, oa) ∧ fX9_insert N Mh (nI n) Mm Mt p1 p2 = some (r, c, mn, mt) ∧ TwoR tn ta mn mt ∧ (c = 0 → oa 0 = r.toInt64) := by
  have hn := h.le
  unfold fL_insert fX8_insert fX9_insert fX2_count
  rw [bn_s]
  rcases upto_cases N p1 n hn with ⟨a, rfl, ha, g1, g2⟩ | ⟨g1, g2⟩
  · rw [g1, g2, bx_r, bn_s, if_neg n1_0]
    rcases arg_cases N p2 (0 : Int32) (25 : Int32) 0 25 rfl rfl (by decide) with ⟨l, rfl, _, hl, h1, h2⟩ | ⟨h1, h2⟩
    · rw [h1, h2, bx_r, bn_s, if_neg n1_0]
      by_cases hr : n < 64
      · obtain ⟨g, h3, h4⟩ := open_nI (v := nI l) hN hr ha Ta
        rw [if_neg (by rw [q_64, nI_eq (by omega) (by omega)]; omega), q_1, room_yes (by omega), bx_r, h3]
        unfold fX9_insert_J45
        obtain ⟨gm, h5, h6, h7, h8, h9⟩ := insertM_H (N := N) (l := l) (Mm := Mm) (Mh := 0) hr ha (n - a) n N Mt (by omega) (by omega) (by omega)
        rw [goesB, if_neg i10, h5]
        refine ⟨_, _, _, _, nI n + 1, _, _, rfl, rfl, ⟨n + 1, rfl, nI_1 n, two_open h hr ha hl h4 ⟨h6, h7, h8⟩⟩, fun _ => (oa_1 _ _).trans ?_⟩
        rw [nI_1]
      · rw [if_pos (by rw [q_64, nI_eq (by omega) (by omega)]; omega), q_1, room_no (by omega) (by omega)]
        unfold fX9_insert_J45
        rw [goes_3]
        exact ⟨_, _, _, _, _, _, _, rfl, rfl, ⟨n, rfl, rfl, h⟩, fun hh => absurd hh (by decide)⟩
    · rw [h1, h2, bn_s, if_pos n0_0]
      unfold fX9_insert_J45
      rw [goes_2]
      exact ⟨_, _, _, _, _, _, _, rfl, rfl, ⟨n, rfl, rfl, h⟩, fun hh => absurd hh (by decide)⟩
  · rw [g1, g2, bn_s, if_pos n0_0]
    unfold fX9_insert_J45
    rw [goes_1]
    exact ⟨_, _, _, _, _, _, _, rfl, rfl, ⟨n, rfl, rfl, h⟩, fun hh => absurd hh (by decide)⟩
theorem ag_set {N n : Nat} {Ta Mt : Nat → Int32} (hN : 100 ≤ N) (h : Two n Ta Mt) (Oa : Nat → Int64) (Mh Mm p1 p2 : Int32) : ∃ c ta oa r mt, fL_set N (nI n) Ta Oa p1 p2 = some (c, ta, oa) ∧ fX9_set N Mh (nI n) Mm Mt p1 p2 = some (r, c, mt) ∧ Two n ta mt ∧ (c = 0 → oa 0 = r.toInt64) := by
  have hn := h.le
  unfold fL_set fX8_set fX9_set fX2_count
  rw [bn_s]
  rcases place_cases N p1 n hn with ⟨a, rfl, ha, g1, g2⟩ | ⟨g1, g2⟩
  · rw [g1, g2, bx_r, bn_s, if_neg n1_0]
    rcases arg_cases N p2 (0 : Int32) (25 : Int32) 0 25 rfl rfl (by decide) with ⟨l, rfl, _, hl, h1, h2⟩ | ⟨h1, h2⟩
    · rw [h1, h2, bx_r, bn_s, if_neg n1_0, letter_nI (by omega)]
      unfold fX2_write fX9_set_J28
      rw [bn_s, put_nI (by omega) (by decide), goes_0]
      refine ⟨_, _, _, Mt a, upd Mt a (nI l), rfl, ?_, ⟨hn, fun j hj => ?_⟩, fun _ => (oa_1 _ _).trans ?_⟩
      · rw [bn_s, if_neg (by decide), q_inb' (by omega), gd_t, gd_t, nI_clamp (by omega)]
      · show upd Mt a (nI l) j = upd Ta a (nI l) j ∧ ∃ v, v ≤ 25 ∧ upd Ta a (nI l) j = nI v
        by_cases e : j = a
        · rw [e, pk_us, pk_us]; exact ⟨rfl, l, hl, rfl⟩
        · rw [pk_un e, pk_un e]; exact h.2 j hj
      · rw [h.eq ha]
    · rw [h1, h2, bn_s, if_pos n0_0]
      unfold fX9_set_J28
      rw [goes_2]
      exact ⟨_, _, _, _, _, rfl, rfl, h, fun hh => absurd hh (by decide)⟩
  · rw [g1, g2, bn_s, if_pos n0_0]
    unfold fX9_set_J28
    rw [goes_1]
    exact ⟨_, _, _, _, _, rfl, rfl, h, fun hh => absurd hh (by decide)⟩
theorem take_H {N n : Nat} {v : Int32} (hn : n ≤ 64) (hn1 : 1 ≤ n) : ∀ d k z (f : Nat → Int32), k + d = n → 1 ≤ k → d < z → ∃ g, fX2_take_H13 N z (nI n) f v (nI k) = some (v, nI (n - 1), g) ∧ (∀ j, j + 1 < k → g j = f j) ∧ (∀ j, k ≤ j + 1 → j + 1 < n → g j = f (j + 1)) := by
  intro d
  induction d with
  | zero =>
    intro k z f hk hk1 hz
    obtain ⟨z, rfl⟩ : ∃ y, z = y + 1 := ⟨z - 1, by omega⟩
    refine ⟨f, ?_, fun j hj => rfl, fun j h1 h2 => by omega⟩
    show fX2_take_B13 N _ _ _ _ _ = _
    unfold fX2_take_B13
    rw [if_pos (by rw [nI_leI (by omega) (by omega)]; omega)]
    unfold fX2_take_J45
    rw [q_1, q_sub hn1]
  | succ d ih =>
    intro k z f hk hk1 hz
    obtain ⟨z, rfl⟩ : ∃ y, z = y + 1 := ⟨z - 1, by omega⟩
    obtain ⟨g, h1, h2, h3⟩ := ih (k + 1) z (upd f (k - 1) (f k)) (by omega) (by omega) (by omega)
    refine ⟨g, ?_, fun j hj => (h2 j (by omega)).trans (pk_un (by omega)), fun j g1 g2 => ?_⟩
    · show fX2_take_B13 N _ _ _ _ _ = _
      unfold fX2_take_B13
      rw [if_neg (by rw [nI_leI (by omega) (by omega)]; omega), at_nI (by omega) (by decide), bn_s, q_1, q_sub (by omega), put_nI (by omega) (by decide), bn_s, nI_add]
      exact h1
    · by_cases e : j + 1 = k
      · rw [h2 j (by omega), show j = k - 1 by omega, pk_us]; congr 1; omega
      · rw [h3 j (by omega) g2]; exact pk_un (by omega)
theorem removeM_H {N n : Nat} {Mm Mh v : Int32} (hn : n < 64) : ∀ d k z (f : Nat → Int32), k + d = n → d < z → ∃ g, fX9_remove_H41 N Mm z Mh (nI n) f v (nI k) = some (v, Mh, nI n, g) ∧ (∀ j, j < k → g j = f j) ∧ (∀ j, k ≤ j → j < n → g j = f (j + 1)) := by
  intro d
  induction d with
  | zero =>
    intro k z f hk hz
    obtain ⟨z, rfl⟩ : ∃ y, z = y + 1 := ⟨z - 1, by omega⟩
    refine ⟨f, ?_, fun j hj => rfl, fun j h1 h2 => by omega⟩
    show fX9_remove_B41 N _ _ _ _ _ _ _ = _
    unfold fX9_remove_B41
    rw [if_pos (by rw [nI_leI (by omega) (by omega)]; omega)]
    rfl
  | succ d ih =>
    intro k z f hk hz
    obtain ⟨z, rfl⟩ : ∃ y, z = y + 1 := ⟨z - 1, by omega⟩
    obtain ⟨g, h1, h2, h3⟩ := ih (k + 1) z (upd f k (f (k + 1))) (by omega) (by omega)
    refine ⟨g, ?_, fun j hj => (h2 j (by omega)).trans (pk_un (by omega)), fun j g1 g2 => ?_⟩
    · show fX9_remove_B41 N _ _ _ _ _ _ _ = _
      unfold fX9_remove_B41
      rw [if_neg (by rw [nI_leI (by omega) (by omega)]; omega), q_1, nI_add, q_inb' (by omega), gd_t, q_inb' (by omega), gd_t, nI_clamp (by omega), nI_clamp (by omega)]
      exact h1
    · by_cases e : j = k
      · rw [e, h2 k (by omega), pk_us]
      · rw [h3 j (by omega) g2]; exact pk_un (by omega)
theorem ag_remove {N n : Nat} {Ta Mt : Nat → Int32} (hN : 100 ≤ N) (h : Two n Ta Mt) (Oa : Nat → Int64) (Mh Mm p1 : Int32) : ∃ c tn ta oa r mn mt, fL_remove N (nI n) Ta Oa p1 = some (c, tn, ta, oa) ∧ fX9_remove N Mh (nI n) Mm Mt p1 = some (r, c, mn, mt) ∧ TwoR tn ta mn mt ∧ (c = 0 → oa 0 = r.toInt64) := by
  have hn := h.le
  unfold fL_remove fX8_remove fX9_remove fX2_count
  rw [bn_s]
  rcases place_cases N p1 n hn with ⟨a, rfl, ha, g1, g2⟩ | ⟨g1, g2⟩
  · rw [g1, g2, bx_r, bn_s, if_neg n1_0]
    unfold fX2_take fX9_remove_J14
    rw [at_nI (by omega) (by decide), bn_s, goesB, if_neg i10, q_inb' (by omega), gd_t, q_1, nI_add, q_sub (by omega), nI_clamp (by omega)]
    obtain ⟨g, h3, h4, h5⟩ := take_H (N := N) (v := Ta a) hn (by omega) (n - (a + 1)) (a + 1) N Ta (by omega) (by omega) (by omega)
    obtain ⟨gm, k3, k4, k5⟩ := removeM_H (N := N) (n := n - 1) (v := Mt a) (Mm := Mm) (Mh := 0) (by omega) (n - 1 - a) a N Mt (by omega) (by omega)
    rw [h3, k3]
    refine ⟨_, _, _, _, Mt a, _, _, rfl, rfl, ⟨n - 1, rfl, rfl, by omega, fun j hj => ?_⟩, fun _ => (oa_1 _ _).trans ?_⟩
    · by_cases e : j < a
      · show gm j = g j ∧ ∃ v, v ≤ 25 ∧ g j = nI v
        rw [h4 j (by omega), k4 j e]; exact h.2 j (by omega)
      · show gm j = g j ∧ ∃ v, v ≤ 25 ∧ g j = nI v
        rw [h5 j (by omega) (by omega), k5 j (by omega) (by omega)]; exact h.2 (j + 1) (by omega)
    · rw [h.eq ha]
  · rw [g1, g2, bn_s, if_pos n0_0]
    unfold fX9_remove_J14
    rw [goes_1]
    exact ⟨_, _, _, _, _, _, _, rfl, rfl, ⟨n, rfl, rfl, h⟩, fun hh => absurd hh (by decide)⟩
theorem goesB1 {α : Type} (N : Nat) (Mh Mn Mm : Int32) (k : Int32 × Int32 → Option α) : bn (fX9_goesWell N Mh Mn Mm (1 : Int32)) k = k ((0 : Int32), (1 : Int32)) := rfl
theorem goesB2 {α : Type} (N : Nat) (Mh Mn Mm : Int32) (k : Int32 × Int32 → Option α) : bn (fX9_goesWell N Mh Mn Mm (2 : Int32)) k = k ((0 : Int32), (2 : Int32)) := rfl
theorem half_div {a b : Nat} (h : b - a ≤ 64) (hab : a ≤ b) : (nI b - nI a) / (2 : Int32) = nI ((b - a) / 2) := by
  rw [q_sub hab, q_2, q_div (by omega) (by omega) (by omega)]
theorem turn_H {N : Nat} {Tn : Int32} {a b : Nat} (hab : a ≤ b) (hb : b ≤ 64) (f : Nat → Int32) : ∀ d k z (g : Nat → Int32), k + d = (b - a) / 2 → d < z → (∀ i, i < k → g (a + i) = f (b - 1 - i) ∧ g (b - 1 - i) = f (a + i)) → (∀ j, (∀ i, i < k → j ≠ a + i ∧ j ≠ b - 1 - i) → g j = f j) → ∃ g2, fX2_turn_H2 N Tn z g (nI a) (nI b) (nI k) = some g2 ∧ (∀ i, i < (b - a) / 2 → g2 (a + i) = f (b - 1 - i) ∧ g2 (b - 1 - i) = f (a + i)) ∧ (∀ j, (∀ i, i < (b - a) / 2 → j ≠ a + i ∧ j ≠ b - 1 - i) → g2 j = f j) := by
  intro d
  induction d with
  | zero =>
    intro k z g hk hz h1 h2
    obtain ⟨z, rfl⟩ : ∃ y, z = y + 1 := ⟨z - 1, by omega⟩
    have hk2 : k = (b - a) / 2 := by omega
    rw [← hk2]
    refine ⟨g, ?_, h1, h2⟩
    show fX2_turn_B2 N _ _ _ _ _ _ = _
    unfold fX2_turn_B2
    rw [show nz (2 : Int32) = true by decide, gd_t, half_div (by omega) hab, if_pos (by rw [nI_leI (by omega) (by omega)]; omega)]
    rfl
  | succ d ih =>
    intro k z g hk hz h1 h2
    obtain ⟨z, rfl⟩ : ∃ y, z = y + 1 := ⟨z - 1, by omega⟩
    have e1 : g (a + k) = f (a + k) := h2 _ (fun i hi => by omega)
    have e2 : g (b - 1 - k) = f (b - 1 - k) := h2 _ (fun i hi => by omega)
    obtain ⟨g2, h3, h4⟩ := ih (k + 1) z (upd (upd g (a + k) (g (b - 1 - k))) (b - 1 - k) (g (a + k))) (by omega) (by omega) (fun i hi => by
      by_cases e : i = k
      · rw [e, pk_us, pk_un (by omega), pk_us]; exact ⟨e2, e1⟩
      · rw [pk_un (by omega), pk_un (by omega), pk_un (by omega), pk_un (by omega)]; exact h1 i (by omega)) (fun j hj => by
      have := hj k (by omega)
      rw [pk_un (by omega), pk_un (by omega)]
      exact h2 j (fun i hi => hj i (by omega)))
    refine ⟨g2, ?_, h4⟩
    show fX2_turn_B2 N _ _ _ _ _ _ = _
    unfold fX2_turn_B2
    rw [show nz (2 : Int32) = true by decide, gd_t, half_div (by omega) hab, if_neg (by rw [nI_leI (by omega) (by omega)]; omega), q_1, q_sub (by omega), q_sub (by omega), nI_add, at_nI (by omega) (by decide), bn_s, at_nI (by omega) (by decide), bn_s, put_nI (by omega) (by decide), bn_s, put_nI (by omega) (by decide), bn_s, nI_add]
    exact h3
theorem turn_nI {N : Nat} {Tn : Int32} {a b : Nat} (hN : 100 ≤ N) (hab : a ≤ b) (hb : b ≤ 64) (f : Nat → Int32) : ∃ g, fX2_turn N Tn f (nI a) (nI b) = some g ∧ (∀ i, i < b - a → g (a + i) = f (b - 1 - i)) ∧ (∀ j, j < a ∨ b ≤ j → g j = f j) := by
  obtain ⟨g, h1, h2, h3⟩ := turn_H (N := N) (Tn := Tn) hab hb f _ 0 N f (Nat.zero_add _) (by omega) (fun i hi => by omega) (fun j hj => rfl)
  refine ⟨g, h1, fun i hi => ?_, fun j hj => h3 j (fun i hi => by omega)⟩
  by_cases e : i < (b - a) / 2
  · exact (h2 i e).1
  · by_cases e2 : b - 1 - (a + i) < (b - a) / 2
    · have := (h2 _ e2).2
      rw [show b - 1 - (b - 1 - (a + i)) = a + i by omega, show a + (b - 1 - (a + i)) = b - 1 - i by omega] at this
      exact this
    · have e3 : a + i = b - 1 - i := by omega
      rw [← e3]
      exact h3 (a + i) (fun i hi => by omega)
theorem keep_H {N n : Nat} {Mh Mm : Int32} {Mt : Nat → Int32} (hn : n ≤ 64) : ∀ d k z (f : Nat → Int32), k + d = n → d < z → (∀ j, j < k → f j = Mt j) → ∃ g, fX9_keep_H2 N Mh (nI n) Mm Mt z f (nI k) = some g ∧ (∀ j, j < n → g j = Mt j) := by
  intro d
  induction d with
  | zero =>
    intro k z f hk hz h1
    obtain ⟨z, rfl⟩ : ∃ y, z = y + 1 := ⟨z - 1, by omega⟩
    refine ⟨f, ?_, fun j hj => h1 j (by omega)⟩
    show fX9_keep_B2 N _ _ _ _ _ _ _ = _
    unfold fX9_keep_B2
    rw [if_pos (by rw [nI_leI (by omega) (by omega)]; omega)]
    rfl
  | succ d ih =>
    intro k z f hk hz h1
    obtain ⟨z, rfl⟩ : ∃ y, z = y + 1 := ⟨z - 1, by omega⟩
    obtain ⟨g, h2, h3⟩ := ih (k + 1) z (upd f k (Mt k)) (by omega) (by omega) (fun j hj => by
      by_cases e : j = k
      · rw [e, pk_us]
      · rw [pk_un e]; exact h1 j (by omega))
    refine ⟨g, ?_, h3⟩
    show fX9_keep_B2 N _ _ _ _ _ _ _ = _
    unfold fX9_keep_B2
    rw [if_neg (by rw [nI_leI (by omega) (by omega)]; omega), q_inb' (by omega), gd_t, gd_t, nI_clamp (by omega), nI_1]
    exact h2
theorem keep_nI {N n : Nat} {Mh Mm : Int32} {Mt : Nat → Int32} (hN : 100 ≤ N) (hn : n ≤ 64) (Mk : Nat → Int32) : ∃ g, fX9_keep N Mh (nI n) Mm Mt Mk = some g ∧ (∀ j, j < n → g j = Mt j) := keep_H hn n 0 N Mk (by omega) (by omega) (fun j hj => by omega)
theorem reverseM_H {N n : Nat} {Mm Mh : Int32} {Mk : Nat → Int32} (hn : n ≤ 64) : ∀ d k z (f : Nat → Int32), k + d = n → d < z → (∀ j, j < k → f j = Mk (n - 1 - j)) → ∃ g, fX9_reverse_H11 N (nI n) Mm z Mh f Mk (nI k) = some (nI n, Mh, g, Mk) ∧ (∀ j, j < n → g j = Mk (n - 1 - j)) := by
  intro d
  induction d with
  | zero =>
    intro k z f hk hz h1
    obtain ⟨z, rfl⟩ : ∃ y, z = y + 1 := ⟨z - 1, by omega⟩
    refine ⟨f, ?_, fun j hj => h1 j (by omega)⟩
    show fX9_reverse_B11 N _ _ _ _ _ _ _ = _
    unfold fX9_reverse_B11
    rw [if_pos (by rw [nI_leI (by omega) (by omega)]; omega)]
    rfl
  | succ d ih =>
    intro k z f hk hz h1
    obtain ⟨z, rfl⟩ : ∃ y, z = y + 1 := ⟨z - 1, by omega⟩
    obtain ⟨g, h2, h3⟩ := ih (k + 1) z (upd f k (Mk (n - 1 - k))) (by omega) (by omega) (fun j hj => by
      by_cases e : j = k
      · rw [e, pk_us]
      · rw [pk_un e]; exact h1 j (by omega))
    refine ⟨g, ?_, h3⟩
    show fX9_reverse_B11 N _ _ _ _ _ _ _ = _
    unfold fX9_reverse_B11
    rw [if_neg (by rw [nI_leI (by omega) (by omega)]; omega), q_1, q_sub (by omega), q_sub (by omega), q_inb' (by omega), gd_t, q_inb' (by omega), gd_t, nI_clamp (by omega), nI_clamp (by omega), nI_add]
    exact h2
theorem ag_reverse {N n : Nat} {Ta Mt : Nat → Int32} (hN : 100 ≤ N) (h : Two n Ta Mt) (Mh Mm : Int32) (Mk : Nat → Int32) : ∃ ta mt mk, fX8_reverse N (nI n) Ta = some (nI n, ta) ∧ fX9_reverse N Mh (nI n) Mm Mt Mk = some (nI n, (0 : Int32), mt, mk) ∧ Two n ta mt := by
  have hn := h.le
  obtain ⟨g, h1, h2, h3⟩ := turn_nI (N := N) (Tn := nI n) hN (Nat.zero_le n) hn Ta
  obtain ⟨mk, h4, h5⟩ := keep_nI (N := N) (Mh := 0) (Mm := Mm) (Mt := Mt) hN hn Mk
  obtain ⟨mt, h6, h7⟩ := reverseM_H (N := N) (Mm := Mm) (Mh := 0) (Mk := mk) hn n 0 N Mt (by omega) (by omega) (fun j hj => by omega)
  refine ⟨g, mt, mk, ?_, ?_, hn, fun j hj => ?_⟩
  · unfold fX8_reverse
    show bn (fX2_turn N (nI n) Ta (nI 0) (nI n)) _ = _
    rw [h1]; rfl
  · unfold fX9_reverse
    rw [h4, bn_s]
    exact h6
  · have e := h2 j (by omega)
    rw [Nat.zero_add, show n - 1 - j = n - 1 - j from rfl] at e
    rw [h7 j hj, e, h5 (n - 1 - j) (by omega)]
    exact h.2 (n - 1 - j) (by omega)
theorem rotateM_H {N n c : Nat} {Mm Mh : Int32} {Mk : Nat → Int32} (hn : n ≤ 64) (hn1 : 1 ≤ n) (hc : c ≤ 63) : ∀ d k z (f : Nat → Int32), k + d = n → d < z → (∀ j, j < k → f j = Mk ((j + c) % n)) → ∃ g, fX9_rotate_H41 N (nI n) Mm z Mh f Mk (nI c) (nI k) = some (g 0, Mh, g, Mk) ∧ (∀ j, j < n → g j = Mk ((j + c) % n)) := by
  intro d
  induction d with
  | zero =>
    intro k z f hk hz h1
    obtain ⟨z, rfl⟩ : ∃ y, z = y + 1 := ⟨z - 1, by omega⟩
    refine ⟨f, ?_, fun j hj => h1 j (by omega)⟩
    show fX9_rotate_B41 N _ _ _ _ _ _ _ _ = _
    unfold fX9_rotate_B41
    rw [if_pos (by rw [nI_leI (by omega) (by omega)]; omega)]
    rfl
  | succ d ih =>
    intro k z f hk hz h1
    obtain ⟨z, rfl⟩ : ∃ y, z = y + 1 := ⟨z - 1, by omega⟩
    have hm : (k + c) % n < n := Nat.mod_lt _ (by omega)
    obtain ⟨g, h2, h3⟩ := ih (k + 1) z (upd f k (Mk ((k + c) % n))) (by omega) (by omega) (fun j hj => by
      by_cases e : j = k
      · rw [e, pk_us]
      · rw [pk_un e]; exact h1 j (by omega))
    refine ⟨g, ?_, h3⟩
    show fX9_rotate_B41 N _ _ _ _ _ _ _ _ = _
    unfold fX9_rotate_B41
    rw [if_neg (by rw [nI_leI (by omega) (by omega)]; omega), q_nz (by omega) (by omega), gd_t, nI_add, pk_rem (by omega) (by omega) (by omega), q_inb' (by omega), gd_t, q_inb' (by omega), gd_t, nI_clamp (by omega), nI_clamp (by omega), nI_1]
    exact h2
theorem ag_rotate {N n : Nat} {Ta Mt : Nat → Int32} (hN : 100 ≤ N) (h : Two n Ta Mt) (Oa : Nat → Int64) (Mh Mm p1 : Int32) (Mk : Nat → Int32) : ∃ c ta oa r mt mk, fL_rotate N (nI n) Ta Oa p1 = some (c, ta, oa) ∧ fX9_rotate N Mh (nI n) Mm Mt Mk p1 = some (r, c, mt, mk) ∧ Two n ta mt ∧ (c = 0 → oa 0 = r.toInt64) := by
  have hn := h.le
  unfold fL_rotate fX8_rotate fX9_rotate fX2_count
  rcases arg_cases N p1 (0 : Int32) (63 : Int32) 0 63 rfl rfl (by decide) with ⟨c, rfl, _, hc, h1, h2⟩ | ⟨h1, h2⟩
  · rw [h1, h2, bx_r, bn_s, bn_s, if_neg n1_0]
    by_cases h0 : n = 0
    · rw [if_pos (by rw [h0]; rfl), if_pos (by rw [h0]; rfl)]
      unfold fX9_rotate_J27
      rw [goesB2, if_pos rfl]
      exact ⟨_, _, _, _, _, _, rfl, rfl, h, fun hh => absurd hh (by decide)⟩
    · have hs : c % n < n := Nat.mod_lt _ (by omega)
      obtain ⟨mk, h4, h5⟩ := keep_nI (N := N) (Mh := 0) (Mm := Mm) (Mt := Mt) hN hn Mk
      obtain ⟨mt, h6, h7⟩ := rotateM_H (N := N) (Mm := Mm) (Mh := 0) (Mk := mk) hn (by omega) hc n 0 N Mt (by omega) (by omega) (fun j hj => by omega)
      obtain ⟨f1, a1, a2, a3⟩ := turn_nI (N := N) (Tn := nI n) hN (Nat.zero_le (c % n)) (by omega) Ta
      obtain ⟨f2, b1, b2, b3⟩ := turn_nI (N := N) (Tn := nI n) hN (show c % n ≤ n by omega) hn f1
      obtain ⟨f3, c1, c2, c3⟩ := turn_nI (N := N) (Tn := nI n) hN (Nat.zero_le n) hn f2
      have hne : ¬ nI n = 0 := by rw [nI_z (by omega)]; exact h0
      rw [if_neg hne, if_neg hne, q_nz (by omega) (by omega), gd_t, pk_rem (by omega) (by omega) (by omega), q_0, a1, bn_s, b1, bn_s, c1, bn_s, letter_nI (by omega), bn_s, bx_r]
      unfold fX9_rotate_J27
      rw [← q_0, goesB, if_neg i10, h4, bn_s]
      have hval : ∀ j, j < n → f3 j = Ta ((j + c) % n) := by
        intro j hj
        have e1 := c2 j (by omega)
        rw [Nat.zero_add] at e1
        rw [e1]
        have hd := Nat.div_add_mod c n
        have hmod : (j + c) % n = (j + c % n) % n := by rw [Nat.add_mod, Nat.mod_eq_of_lt hj]
        by_cases e : j < n - c % n
        · have e2 := b2 (n - 1 - j - c % n) (by omega)
          rw [show c % n + (n - 1 - j - c % n) = n - 1 - j by omega, show n - 1 - (n - 1 - j - c % n) = j + c % n by omega] at e2
          rw [e2, a3 _ (by omega), hmod, Nat.mod_eq_of_lt (show j + c % n < n by omega)]
        · have e2 := a2 (n - 1 - j) (by omega)
          rw [Nat.zero_add] at e2
          rw [b3 _ (by omega), e2, hmod, Nat.mod_eq_sub_mod (show j + c % n ≥ n by omega), Nat.mod_eq_of_lt (show j + c % n - n < n by omega)]
          congr 1; omega
      have hval2 : ∀ j, j < n → mt j = Mt ((j + c) % n) := by
        intro j hj
        rw [h7 j hj]
        exact h5 _ (Nat.mod_lt _ (by omega))
      refine ⟨_, _, _, mt 0, mt, mk, rfl, h6, ⟨hn, fun j hj => ?_⟩, fun _ => (oa_1 _ _).trans ?_⟩
      · show mt j = f3 j ∧ ∃ v, v ≤ 25 ∧ f3 j = nI v
        rw [hval j hj, hval2 j hj]
        exact h.2 _ (Nat.mod_lt _ (by omega))
      · show (f3 0).toInt64 = (mt 0).toInt64
        rw [hval 0 (by omega), hval2 0 (by omega), h.eq (Nat.mod_lt _ (by omega))]
  · rw [h1, h2, bn_s, bn_s, if_pos n0_0]
    unfold fX9_rotate_J27
    rw [goesB1, if_pos rfl]
    exact ⟨_, _, _, _, _, _, rfl, rfl, h, fun hh => absurd hh (by decide)⟩
theorem appC_H {N n a b : Nat} (hN : 100 ≤ N) (hb : b ≤ n) (hr : n + (b - a) ≤ 64) (f : Nat → Int32) : ∀ d k z (g : Nat → Int32), k + d = b → a ≤ k → d < z → (∀ j, j < n → g j = f j) → (∀ j, j < k - a → g (n + j) = f (a + j)) → ∃ g2, fX8_appendPart_H15 N z (nI (n + (k - a))) g (nI b) (nI k) = some (.inr (nI (n + (b - a)), nI (n + (b - a)), g2)) ∧ (∀ j, j < n → g2 j = f j) ∧ (∀ j, j < b - a → g2 (n + j) = f (a + j)) := by
  intro d
  induction d with
  | zero =>
    intro k z g hk hak hz h1 h2
    obtain ⟨z, rfl⟩ : ∃ y, z = y + 1 := ⟨z - 1, by omega⟩
    have : k = b := by omega
    subst this
    refine ⟨g, ?_, h1, h2⟩
    show fX8_appendPart_B15 N _ _ _ _ _ = _
    unfold fX8_appendPart_B15
    rw [if_pos (by rw [nI_leI (by omega) (by omega)]; omega)]
    rfl
  | succ d ih =>
    intro k z g hk hak hz h1 h2
    obtain ⟨z, rfl⟩ : ∃ y, z = y + 1 := ⟨z - 1, by omega⟩
    obtain ⟨g1, p1, p2, p3, p4⟩ := push_nI (N := N) (n := n + (k - a)) (v := g k) hN (by omega) g
    obtain ⟨g2, h3, h4, h5⟩ := ih (k + 1) z g1 (by omega) (by omega) (by omega) (fun j hj => (p3 j (by omega)).trans (h1 j hj)) (fun j hj => by
      by_cases e : j = k - a
      · rw [e, p2, h1 k (by omega)]; congr 1; omega
      · rw [p3 _ (by omega)]; exact h2 j (by omega))
    refine ⟨g2, ?_, h4, h5⟩
    show fX8_appendPart_B15 N _ _ _ _ _ = _
    unfold fX8_appendPart_B15
    rw [if_neg (by rw [nI_leI (by omega) (by omega)]; omega), letter_nI (by omega), bn_s, p1, bn_s, nI_1]
    rw [show n + (k + 1 - a) = n + (k - a) + 1 by omega] at h3
    exact h3
theorem appM_H {N n a b : Nat} {Mm Mh : Int32} (hb : b ≤ n) (hr : n + (b - a) ≤ 64) (f : Nat → Int32) : ∀ d k z (g : Nat → Int32), k + d = b → a ≤ k → d < z → (∀ j, j < n → g j = f j) → (∀ j, j < k - a → g (n + j) = f (a + j)) → ∃ g2, fX9_appendPart_H42 N Mm z Mh (nI (n + (k - a))) g (nI b) (nI k) = some (nI (n + (b - a)), Mh, nI (n + (b - a)), g2) ∧ (∀ j, j < n → g2 j = f j) ∧ (∀ j, j < b - a → g2 (n + j) = f (a + j)) := by
  intro d
  induction d with
  | zero =>
    intro k z g hk hak hz h1 h2
    obtain ⟨z, rfl⟩ : ∃ y, z = y + 1 := ⟨z - 1, by omega⟩
    have : k = b := by omega
    subst this
    refine ⟨g, ?_, h1, h2⟩
    show fX9_appendPart_B42 N _ _ _ _ _ _ _ = _
    unfold fX9_appendPart_B42
    rw [if_pos (by rw [nI_leI (by omega) (by omega)]; omega)]
    rfl
  | succ d ih =>
    intro k z g hk hak hz h1 h2
    obtain ⟨z, rfl⟩ : ∃ y, z = y + 1 := ⟨z - 1, by omega⟩
    obtain ⟨g2, h3, h4, h5⟩ := ih (k + 1) z (upd g (n + (k - a)) (g k)) (by omega) (by omega) (by omega) (fun j hj => (pk_un (by omega)).trans (h1 j hj)) (fun j hj => by
      by_cases e : j = k - a
      · rw [e, pk_us, h1 k (by omega)]; congr 1; omega
      · rw [pk_un (by omega)]; exact h2 j (by omega))
    refine ⟨g2, ?_, h4, h5⟩
    show fX9_appendPart_B42 N _ _ _ _ _ _ _ = _
    unfold fX9_appendPart_B42
    rw [if_neg (by rw [nI_leI (by omega) (by omega)]; omega), q_inb' (by omega), gd_t, q_inb' (by omega), gd_t, nI_clamp (by omega), nI_clamp (by omega), nI_1, nI_1]
    rw [show n + (k + 1 - a) = n + (k - a) + 1 by omega] at h3
    exact h3
theorem ag_appendPart {N n : Nat} {Ta Mt : Nat → Int32} (hN : 100 ≤ N) (h : Two n Ta Mt) (Oa : Nat → Int64) (Mh Mm p1 p2 : Int32) : ∃ c tn ta oa r mn mt, fL_appendPart N (nI n) Ta Oa p1 p2 = some (c, tn, ta, oa) ∧ fX9_appendPart N Mh (nI n) Mm Mt p1 p2 = some (r, c, mn, mt) ∧ TwoR tn ta mn mt ∧ (c = 0 → oa 0 = r.toInt64) := by
  have hn := h.le
  unfold fL_appendPart fX8_appendPart fX9_appendPart
  rcases part_cases N p1 p2 n hn with ⟨a, b, rfl, rfl, hab, hb, g1, g2⟩ | ⟨g1, g2⟩
  · rw [g1, g2, bx_r, bn_s, if_neg n1_0, q_sub (by omega), nI_add, q_sub (by omega)]
    by_cases hr : n + (b - a) ≤ 64
    · rw [room_yes hr, bx_r, if_pos (by rw [q_64, nI_leI (by omega) (by omega)]; omega)]
      obtain ⟨f1, a1, a2, a3⟩ := appC_H (N := N) hN hb hr Ta (b - a) a N Ta (by omega) (by omega) (by omega) (fun j hj => rfl) (fun j hj => by omega)
      obtain ⟨f2, b1, b2, b3⟩ := appM_H (N := N) (Mm := Mm) (Mh := 0) hb hr Mt (b - a) a N Mt (by omega) (by omega) (by omega) (fun j hj => rfl) (fun j hj => by omega)
      rw [show n + (a - a) = n by omega] at a1 b1
      unfold fX9_appendPart_J32
      rw [a1, goesB, if_neg i10, b1]
      refine ⟨_, _, _, _, nI (n + (b - a)), _, _, rfl, rfl, ⟨n + (b - a), rfl, rfl, hr, fun j hj => ?_⟩, fun _ => oa_1 _ _⟩
      show f2 j = f1 j ∧ ∃ v, v ≤ 25 ∧ f1 j = nI v
      by_cases e : j < n
      · rw [a2 j e, b2 j e]; exact h.2 j e
      · obtain ⟨i, rfl⟩ : ∃ i, j = n + i := ⟨j - n, by omega⟩
        rw [a3 i (by omega), b3 i (by omega)]; exact h.2 (a + i) (by omega)
    · rw [room_no hr (by omega), if_neg (by rw [q_64, nI_leI (by omega) (by omega)]; omega)]
      unfold fX9_appendPart_J32
      rw [goesB2, if_pos rfl]
      exact ⟨_, _, _, _, _, _, _, rfl, rfl, ⟨n, rfl, rfl, h⟩, fun hh => absurd hh (by decide)⟩
  · rw [g1, g2, bn_s, if_pos n0_0]
    unfold fX9_appendPart_J32
    rw [goesB1, if_pos rfl]
    exact ⟨_, _, _, _, _, _, _, rfl, rfl, ⟨n, rfl, rfl, h⟩, fun hh => absurd hh (by decide)⟩
theorem ag_letterAt {N n : Nat} {Ta Mt : Nat → Int32} (hN : 100 ≤ N) (h : Two n Ta Mt) (Oa : Nat → Int64) (Mh Mm p1 : Int32) : ∃ c oa r, fL_letterAt N (nI n) Ta Oa p1 = some (c, oa) ∧ fX9_letterAt N Mh (nI n) Mm Mt p1 = some (r, c) ∧ (c = 0 → oa 0 = r.toInt64) := by
  have hn := h.le
  unfold fL_letterAt fX8_letterAt fX9_letterAt fX2_count
  rw [bn_s]
  rcases place_cases N p1 n hn with ⟨a, rfl, ha, g1, g2⟩ | ⟨g1, g2⟩
  · rw [g1, g2, bx_r, bn_s, if_neg n1_0, letter_nI (by omega)]
    unfold fX9_letterAt_J14 fX9_letterAt_J30
    rw [goesB, if_neg i10, q_inb' (by omega), gd_t, nI_clamp (by omega)]
    refine ⟨_, _, _, rfl, rfl, fun _ => (oa_1 _ _).trans ?_⟩
    rw [h.eq ha]
  · rw [g1, g2, bn_s, if_pos n0_0]
    unfold fX9_letterAt_J14
    rw [goesB1, if_pos rfl]
    exact ⟨_, _, _, rfl, rfl, fun hh => absurd hh (by decide)⟩
theorem cmp_nI {N x y : Nat} (hx : x < 2 ^ 31) (hy : y < 2 ^ 31) : fJ6_compare_7cf53 N (nI x) (nI y) = some (if x < y then (-1 : Int32) else if y < x then (1 : Int32) else (0 : Int32)) := by
  unfold fJ6_compare_7cf53
  by_cases h : y ≤ x
  · rw [if_pos ((nI_leI hy hx).mpr h), if_neg (show ¬ x < y by omega)]
    by_cases e : x = y
    · rw [if_pos (by rw [e]), if_neg (by omega)]; rfl
    · rw [if_neg (by rw [nI_eq hx hy]; exact e), if_pos (by omega)]; rfl
  · rw [if_neg (by rw [nI_leI hy hx]; exact h), if_pos (by omega)]; rfl
theorem cmpM_nI {N : Nat} {Mn Mm Mh v : Int32} {Mt : Nat → Int32} {x y : Nat} (h1 : v < 0 ↔ x < y) (h2 : 0 < v ↔ y < x) (h3 : 0 ≤ v ↔ ¬ x < y) : (if 0 ≤ v then if v ≤ 0 then fX9_compare_J64 N Mn Mm Mt Mh (0 : Int32) else fX9_compare_J64 N Mn Mm Mt Mh (1 : Int32) else fX9_compare_J64 N Mn Mm Mt Mh (-1 : Int32)) = some ((if x < y then (-1 : Int32) else if y < x then (1 : Int32) else (0 : Int32)), Mh) := by
  have h4 : v ≤ 0 ↔ ¬ y < x := by
    rw [← h2, Int32.not_lt]
  by_cases e : x < y
  · rw [if_neg (by rw [h3]; exact fun hh => hh e), if_pos e]; rfl
  · rw [if_pos (h3.mpr e), if_neg e]
    by_cases e2 : y < x
    · rw [if_neg (by rw [h4]; exact fun hh => hh e2), if_pos e2]; rfl
    · rw [if_pos (h4.mpr e2), if_neg e2]; rfl
theorem ag_compare {N n : Nat} {Ta Mt : Nat → Int32} (hN : 100 ≤ N) (h : Two n Ta Mt) (Oa : Nat → Int64) (Mh Mm p1 p2 p3 p4 : Int32) : ∃ c oa r, fL_compare N (nI n) Ta Oa p1 p2 p3 p4 = some (c, oa) ∧ fX9_compare N Mh (nI n) Mm Mt p1 p2 p3 p4 = some (r, c) ∧ (c = 0 → oa 0 = r.toInt64) := by
  have hn := h.le
  obtain ⟨w, hT, hM⟩ := h.rp
  unfold fL_compare fX8_compare fX9_compare
  rcases part_cases N p1 p2 n hn with ⟨a, b, rfl, rfl, hab, hb, g1, g2⟩ | ⟨g1, g2⟩
  · rw [g1, g2, bx_r, bn_s, if_neg n1_0]
    rcases part_cases N p3 p4 n hn with ⟨c, e, rfl, rfl, hce, he, k1, k2⟩ | ⟨k1, k2⟩
    · rw [k1, k2, bx_r, bn_s, if_neg n1_0, countSame_nI hN hT (by omega) (by omega), bn_s]
      unfold fX9_compare_J25
      rw [goesB, if_neg i10]
      obtain ⟨v, o1, o2, o3, o4⟩ := order_nI (Mh := 0) (Mn := nI n) (Mm := Mm) hN hM false (0 : Int32) (by simp) (a := a) (b := b) (c := c) (e := e) (by omega) hb (by omega) he
      rw [o1, bn_s]
      obtain ⟨s1, s2, s3, s4⟩ := lf_spec (fun k => w (a + k) ≠ w (c + k)) (n - max a c) 0
      generalize lf (fun k => w (a + k) ≠ w (c + k)) 0 (n - max a c) = k at s1 s2 s3 s4
      have s5 : ∀ j, j < k → w (a + j) = w (c + j) := fun j hj => Classical.byContradiction fun hh => s3 j (by omega) hj hh
      have hmin : (if nI e - nI c < nI b - nI a then nI e - nI c else nI b - nI a) = nI (min (b - a) (e - c)) := by
        rw [q_sub (by omega), q_sub (by omega)]
        by_cases q : e - c < b - a
        · rw [if_pos ((nI_ltI (by omega) (by omega)).mpr q)]; congr 1; omega
        · rw [if_neg (by rw [nI_ltI (by omega) (by omega)]; exact q)]; congr 1; omega
      rw [hmin]
      by_cases hk : min (b - a) (e - c) ≤ k
      · rw [if_pos ((nI_leI (by omega) (by omega)).mpr hk), q_sub (by omega), q_sub (by omega), cmp_nI (by omega) (by omega)]
        rw [PL_all (fun j hj => s5 j (by omega))] at o2 o4
        rw [PL_all (fun j hj => (s5 j (by omega)).symm)] at o3
        rw [cmpM_nI o2 o3 o4]
        exact ⟨_, _, _, rfl, rfl, fun _ => oa_1 _ _⟩
      · have d := s4 (by omega)
        rw [if_neg (by rw [nI_leI (by omega) (by omega)]; exact hk), nI_add, nI_add, letter_nI (by omega), bn_s, letter_nI (by omega), bn_s, hT.at (by omega), hT.at (by omega), cmp_nI (by have := hT.b (show a + k < n by omega); omega) (by have := hT.b (show c + k < n by omega); omega)]
        rw [PL_at (k := k) (by omega) (by omega) s5 d] at o2 o4
        rw [PL_at (k := k) (by omega) (by omega) (fun j hj => (s5 j hj).symm) (fun hh => d hh.symm)] at o3
        simp only [ltR] at o2 o3 o4
        rw [cmpM_nI o2 o3 o4]
        exact ⟨_, _, _, rfl, rfl, fun _ => oa_1 _ _⟩
    · rw [k1, k2, bn_s, if_pos n0_0]
      unfold fX9_compare_J24 fX9_compare_J25
      rw [goesB1, if_pos rfl]
      exact ⟨_, _, _, rfl, rfl, fun hh => absurd hh (by decide)⟩
  · rw [g1, g2, bn_s, if_pos n0_0]
    unfold fX9_compare_J24 fX9_compare_J25
    rw [goesB1, if_pos rfl]
    exact ⟨_, _, _, rfl, rfl, fun hh => absurd hh (by decide)⟩
theorem ag_commonPrefix {N n : Nat} {Ta Mt : Nat → Int32} (hN : 100 ≤ N) (h : Two n Ta Mt) (Oa : Nat → Int64) (Mh Mm p1 p2 : Int32) : ∃ c oa r, fL_commonPrefix N (nI n) Ta Oa p1 p2 = some (c, oa) ∧ fX9_commonPrefix N Mh (nI n) Mm Mt p1 p2 = some (r, c) ∧ (c = 0 → oa 0 = r.toInt64) := by
  have hn := h.le
  obtain ⟨w, hT, hM⟩ := h.rp
  unfold fL_commonPrefix fX8_commonPrefix fX9_commonPrefix fX2_count
  rw [bn_s, bn_s]
  rcases upto_cases N p1 n hn with ⟨a, rfl, ha, g1, g2⟩ | ⟨g1, g2⟩
  · rw [g1, g2, bx_r, bn_s, if_neg n1_0]
    rcases upto_cases N p2 n hn with ⟨c, rfl, hc, k1, k2⟩ | ⟨k1, k2⟩
    · rw [k1, k2, bx_r, bn_s, if_neg n1_0, countSame_nI hN hT (by omega) (by omega)]
      unfold fX9_commonPrefix_J30
      rw [goesB, if_neg i10, same_nI hN hM ha (by omega) hc (by omega)]
      refine ⟨_, _, _, rfl, rfl, fun _ => (oa_1 _ _).trans ?_⟩
      rw [show min (n - a) (n - c) = n - max a c by omega]
    · rw [k1, k2, bn_s, if_pos n0_0]
      unfold fX9_commonPrefix_J29 fX9_commonPrefix_J30
      rw [goesB1, if_pos rfl]
      exact ⟨_, _, _, rfl, rfl, fun hh => absurd hh (by decide)⟩
  · rw [g1, g2, bn_s, if_pos n0_0]
    unfold fX9_commonPrefix_J29 fX9_commonPrefix_J30
    rw [goesB1, if_pos rfl]
    exact ⟨_, _, _, rfl, rfl, fun hh => absurd hh (by decide)⟩
theorem ag_isLyndon {N n : Nat} {Ta Mt : Nat → Int32} (hN : 100 ≤ N) (h : Two n Ta Mt) (Oa : Nat → Int64) (Mh Mm p1 p2 : Int32) : ∃ c oa r, fL_isLyndon N (nI n) Ta Oa p1 p2 = some (c, oa) ∧ fX9_isLyndon N Mh (nI n) Mm Mt p1 p2 = some (r, c) ∧ (c = 0 → oa 0 = if r = 0 then (0 : Int64) else (1 : Int64)) := by
  have hn := h.le
  obtain ⟨w, hT, hM⟩ := h.rp
  unfold fL_isLyndon fX8_isLyndon fX9_isLyndon
  rcases part_cases N p1 p2 n hn with ⟨a, b, rfl, rfl, hab, hb, g1, g2⟩ | ⟨g1, g2⟩
  · rw [g1, g2, bx_r, bn_s, if_neg n1_0, isOneFactor_nI hN hT hab hb, bn_s, pI_B, gd_t, bx_r]
    unfold fX9_isLyndon_J15
    rw [goesB, if_neg i10, lyndonPart_nI hN hM false (0 : Int32) (by simp) hab hb, bn_s]
    by_cases hP : LY false w a b
    · rw [if_neg (by rw [pI_z]; exact fun hh => hh hP), if_neg (by rw [pI_z]; exact fun hh => hh hP)]
      exact ⟨_, _, (1 : Int32), rfl, rfl, fun _ => oa_1 _ _⟩
    · rw [if_pos (by rw [pI_z]; exact hP), if_pos (by rw [pI_z]; exact hP)]
      exact ⟨_, _, (0 : Int32), rfl, rfl, fun _ => oa_1 _ _⟩
  · rw [g1, g2, bn_s, if_pos n0_0]
    unfold fX9_isLyndon_J15
    rw [goesB1, if_pos rfl]
    exact ⟨_, _, (0 : Int32), rfl, rfl, fun hh => absurd hh (by decide)⟩
theorem ag_longestLyndon {N n : Nat} {Ta Mt : Nat → Int32} (hN : 100 ≤ N) (h : Two n Ta Mt) (Oa : Nat → Int64) (Mh Mm p1 p2 : Int32) : ∃ c oa r, fL_longestLyndon N (nI n) Ta Oa p1 p2 = some (c, oa) ∧ fX9_longestLyndon N Mh (nI n) Mm Mt p1 p2 = some (r, c) ∧ (c = 0 → oa 0 = r.toInt64) := by
  have hn := h.le
  obtain ⟨w, hT, hM⟩ := h.rp
  unfold fL_longestLyndon fX8_longestLyndon fX9_longestLyndon fX2_count
  rw [bn_s, bn_s]
  rcases place_cases N p1 n hn with ⟨a, rfl, ha, g1, g2⟩ | ⟨g1, g2⟩
  · obtain ⟨r, hr⟩ : ∃ r : Bool, p2 = 0 ↔ r = false := by
      by_cases e : p2 = 0
      · exact ⟨false, by simp [e]⟩
      · exact ⟨true, by simp [e]⟩
    rw [g1, g2, bx_r, bn_s, if_neg n1_0, (firstLength_ll hN hT r p2 hr ha (Nat.le_refl n)).1]
    unfold fX9_longestLyndon_J14
    rw [goesB, if_neg i10, (longest_nI hN hM r p2 hr ha).1]
    exact ⟨_, _, _, rfl, rfl, fun _ => oa_1 _ _⟩
  · rw [g1, g2, bn_s, if_pos n0_0]
    unfold fX9_longestLyndon_J14
    rw [goesB1, if_pos rfl]
    exact ⟨_, _, _, rfl, rfl, fun hh => absurd hh (by decide)⟩
theorem stdC_H {N n b : Nat} {Tn : Int32} {w : Nat → Nat} {Ta : Nat → Int32} (hN : 100 ≤ N) (h : Rp n w Ta) (hb : b ≤ n) : ∀ d s z, s + d + 1 = b → d < z → fX8_standardFactor_H39 N Tn Ta z (nI b) (nI s) = some (.inr (nI (lf (fun s => LY false w s b) s d))) := by
  have hn := h.le
  intro d
  induction d with
  | zero =>
    intro s z hs hz
    obtain ⟨z, rfl⟩ : ∃ y, z = y + 1 := ⟨z - 1, by omega⟩
    show fX8_standardFactor_B39 N _ _ _ _ _ = _
    unfold fX8_standardFactor_B39
    rw [q_1, q_sub (by omega), if_pos (by rw [nI_leI (by omega) (by omega)]; omega), lf_0]
    rfl
  | succ d ih =>
    intro s z hs hz
    obtain ⟨z, rfl⟩ : ∃ y, z = y + 1 := ⟨z - 1, by omega⟩
    show fX8_standardFactor_B39 N _ _ _ _ _ = _
    unfold fX8_standardFactor_B39
    rw [q_1, q_sub (by omega), if_neg (by rw [nI_leI (by omega) (by omega)]; omega), isOneFactor_nI hN h (by omega) hb, bn_s]
    by_cases e : LY false w s b
    · rw [if_neg (by rw [pI_z]; exact fun hh => hh e), lf_t (P := fun s => LY false w s b) e]
      rfl
    · rw [if_pos (by rw [pI_z]; exact e), lf_f (P := fun s => LY false w s b) e, nI_add]
      exact ih (s + 1) z (by omega) (by omega)
theorem stdM_H {N n b : Nat} {Mm Mh : Int32} {w : Nat → Nat} {Mt : Nat → Int32} (hN : 100 ≤ N) (h : Rp n w Mt) (hb : b ≤ n) : ∀ d s z, s + d + 1 = b → d < z → fX9_standardFactor_H48 N (nI n) Mm Mt z Mh (nI b) (nI s) = some (nI (lf (fun s => LY false w s b) s d), Mh) := by
  have hn := h.le
  intro d
  induction d with
  | zero =>
    intro s z hs hz
    obtain ⟨z, rfl⟩ : ∃ y, z = y + 1 := ⟨z - 1, by omega⟩
    show fX9_standardFactor_B48 N _ _ _ _ _ _ _ = _
    unfold fX9_standardFactor_B48
    rw [lyndonPart_nI hN h false (0 : Int32) (by simp) (by omega) hb, bn_s, if_neg (by rw [pI_z]; exact fun hh => hh (LY_one (by omega))), lf_0]
    rfl
  | succ d ih =>
    intro s z hs hz
    obtain ⟨z, rfl⟩ : ∃ y, z = y + 1 := ⟨z - 1, by omega⟩
    show fX9_standardFactor_B48 N _ _ _ _ _ _ _ = _
    unfold fX9_standardFactor_B48
    rw [lyndonPart_nI hN h false (0 : Int32) (by simp) (by omega) hb, bn_s]
    by_cases e : LY false w s b
    · rw [if_neg (by rw [pI_z]; exact fun hh => hh e), lf_t (P := fun s => LY false w s b) e]
      rfl
    · rw [if_pos (by rw [pI_z]; exact e), lf_f (P := fun s => LY false w s b) e, nI_1]
      exact ih (s + 1) z (by omega) (by omega)
theorem ag_standardFactor {N n : Nat} {Ta Mt : Nat → Int32} (hN : 100 ≤ N) (h : Two n Ta Mt) (Oa : Nat → Int64) (Mh Mm p1 p2 : Int32) : ∃ c oa r, fL_standardFactor N (nI n) Ta Oa p1 p2 = some (c, oa) ∧ fX9_standardFactor N Mh (nI n) Mm Mt p1 p2 = some (r, c) ∧ (c = 0 → oa 0 = r.toInt64) := by
  have hn := h.le
  obtain ⟨w, hT, hM⟩ := h.rp
  unfold fL_standardFactor fX8_standardFactor fX9_standardFactor
  rcases part_cases N p1 p2 n hn with ⟨a, b, rfl, rfl, hab, hb, g1, g2⟩ | ⟨g1, g2⟩
  · rw [g1, g2, bx_r, bn_s, if_neg n1_0]
    by_cases h1 : b - a = 1
    · have h2 : nI b - nI a = (1 : Int32) := by rw [q_sub (by omega), h1]; rfl
      rw [if_pos h2, if_pos h2]
      unfold fX9_standardFactor_J31 fX9_standardFactor_J36
      rw [goesB2, if_pos rfl]
      exact ⟨_, _, _, rfl, rfl, fun hh => absurd hh (by decide)⟩
    · have h2 : ¬ nI b - nI a = (1 : Int32) := by rw [q_sub (by omega), q_1, nI_eq (by omega) (by omega)]; exact h1
      rw [if_neg h2, if_neg h2, isOneFactor_nI hN hT hab hb, lyndonPart_nI hN hM false (0 : Int32) (by simp) hab hb, bn_s, bn_s]
      by_cases hP : LY false w a b
      · rw [if_neg (by rw [pI_z]; exact fun hh => hh hP), if_neg (by rw [pI_z]; exact fun hh => hh hP)]
        unfold fX9_standardFactor_J36
        rw [goesB, if_neg i10, q_1, nI_add, stdC_H hN hT hb (b - (a + 1) - 1) (a + 1) N (by omega) (by omega), stdM_H hN hM hb (b - (a + 1) - 1) (a + 1) N (by omega) (by omega)]
        exact ⟨_, _, _, rfl, rfl, fun _ => oa_1 _ _⟩
      · rw [if_pos (by rw [pI_z]; exact hP), if_pos (by rw [pI_z]; exact hP)]
        unfold fX9_standardFactor_J31 fX9_standardFactor_J36
        rw [goesB2, if_pos rfl]
        exact ⟨_, _, _, rfl, rfl, fun hh => absurd hh (by decide)⟩
  · rw [g1, g2, bn_s, if_pos n0_0]
    unfold fX9_standardFactor_J36
    rw [goesB1, if_pos rfl]
    exact ⟨_, _, _, rfl, rfl, fun hh => absurd hh (by decide)⟩
