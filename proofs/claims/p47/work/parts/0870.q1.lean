/-! p47: arguments and parts, the class's side alone -/
theorem argC (N : Nat) (p lo hi : Int32) (l h : Nat) (hl : lo = nI l) (hh : hi = nI h) (hb : l ≤ h ∧ h < 2 ^ 31) : (∃ a, p = nI a ∧ l ≤ a ∧ a ≤ h ∧ fX8_checkArgument N p lo hi = some (.inr ())) ∨ fX8_checkArgument N p lo hi = some (.inl 1) := by
  subst hl hh
  unfold fX8_checkArgument
  rcases i_lt0 (x := p) with h0 | ⟨a, ha, rfl⟩
  · right
    have h1 : p < nI l := by
      rw [Int32.lt_iff_toInt_lt] at h0 ⊢
      rw [nI_toInt (by omega)]
      have : (0 : Int32).toInt = 0 := rfl
      omega
    exact (if_pos h1).trans rfl
  · by_cases h1 : a < l
    · right
      exact (if_pos ((nI_ltI ha (by omega)).mpr h1)).trans rfl
    · by_cases h2 : a ≤ h
      · left
        exact ⟨a, rfl, by omega, h2, (if_neg (fun hh => h1 ((nI_ltI ha (by omega)).mp hh))).trans ((if_pos ((nI_leI ha (by omega)).mpr h2)).trans rfl)⟩
      · right
        exact (if_neg (fun hh => h1 ((nI_ltI ha (by omega)).mp hh))).trans ((if_neg (fun hh => h2 ((nI_leI ha (by omega)).mp hh))).trans rfl)
theorem argOk (N : Nat) {a l h : Nat} (h1 : l ≤ a) (h2 : a ≤ h) (hb : h < 2 ^ 31) : fX8_checkArgument N (nI a) (nI l) (nI h) = some (.inr ()) := by
  unfold fX8_checkArgument
  exact (if_neg (fun hh => by have := (nI_ltI (by omega) (by omega)).mp hh; omega)).trans ((if_pos ((nI_leI (by omega) (by omega)).mpr h2)).trans rfl)
theorem idxC (N : Nat) (p : Int32) (c : Nat) (hc : c < 2 ^ 30) : (∃ a, p = nI a ∧ a < c ∧ fX8_checkIndex N p (nI c) = some (.inr ())) ∨ fX8_checkIndex N p (nI c) = some (.inl 0) := by
  unfold fX8_checkIndex
  rcases i_lt0 (x := p) with h0 | ⟨a, ha, rfl⟩
  · right
    exact (if_pos h0).trans rfl
  · have hz : ¬ nI a < 0 := nI_pos ha
    by_cases h1 : a < c
    · left
      exact ⟨a, rfl, h1, (if_neg hz).trans ((if_pos ((nI_ltI ha (by omega)).mpr h1)).trans rfl)⟩
    · right
      exact (if_neg hz).trans ((if_neg (fun hh => h1 ((nI_ltI ha (by omega)).mp hh))).trans rfl)
theorem idxOk (N : Nat) {a c : Nat} (h : a < c) (hc : c < 2 ^ 30) : fX8_checkIndex N (nI a) (nI c) = some (.inr ()) := by
  unfold fX8_checkIndex
  exact (if_neg (nI_pos (by omega))).trans ((if_pos ((nI_ltI (by omega) (by omega)).mpr h)).trans rfl)
theorem partC (N : Nat) (p1 p2 : Int32) (n : Nat) (hn : n ≤ 64) : (∃ a b, p1 = nI a ∧ p2 = nI b ∧ a < b ∧ b ≤ n ∧ fX8_checkPart N (nI n) p1 p2 = some (.inr ())) ∨ fX8_checkPart N (nI n) p1 p2 = some (.inl 0) := by
  unfold fX8_checkPart
  by_cases h0 : p1 < 0
  · right
    exact (if_pos h0).trans rfl
  · by_cases h1 : p2 ≤ p1
    · right
      exact (if_neg h0).trans ((if_pos h1).trans rfl)
    · obtain ⟨a, ha, rfl⟩ := nI_of h0
      have h2 : ¬ p2 < 0 := by
        intro hh
        rw [Int32.le_iff_toInt_le] at h1
        rw [Int32.lt_iff_toInt_lt] at hh
        rw [nI_toInt ha] at h1
        have : (0 : Int32).toInt = 0 := rfl
        omega
      obtain ⟨b, hb, rfl⟩ := nI_of h2
      have h1' := h1
      rw [nI_leI hb ha] at h1
      by_cases h3 : b ≤ n
      · left
        exact ⟨a, b, rfl, rfl, by omega, h3, (if_neg h0).trans ((if_neg h1').trans (by
          show (if nI b ≤ nI n then _ else _) = _
          exact if_pos ((nI_leI hb (by omega)).mpr h3)))⟩
      · right
        exact (if_neg h0).trans ((if_neg h1').trans (by
          show (if nI b ≤ nI n then _ else _) = _
          exact (if_neg (by rw [nI_leI hb (by omega)]; exact h3)).trans rfl))
theorem partOk (N : Nat) {a b n : Nat} (hab : a < b) (hb : b ≤ n) (hn : n ≤ 64) : fX8_checkPart N (nI n) (nI a) (nI b) = some (.inr ()) := by
  unfold fX8_checkPart
  exact (if_neg (nI_pos (by omega))).trans ((if_neg (by rw [nI_leI (by omega) (by omega)]; omega)).trans (by
    show (if nI b ≤ nI n then _ else _) = _
    exact if_pos ((nI_leI (by omega) (by omega)).mpr hb)))
/-! two texts alike, edited alike; -99999 says that it was refused -/
abbrev RF : Int32 := (-99999 : Int32)
theorem nI_RF {a : Nat} (h : a < 2 ^ 31) : ¬ nI a = RF := fun e => by
  have h1 := congrArg Int32.toInt e
  rw [nI_toInt h] at h1
  have : (RF).toInt = -99999 := by decide
  omega
def Ed3 (n : Nat) (f g : Nat → Int32) (o q : Option (Int32 × Int32 × (Nat → Int32))) : Prop := ∃ r n' f' g', o = some (r, nI n', f') ∧ q = some (r, nI n', g') ∧ Two n' f' g' ∧ (r = RF → n' = n ∧ f' = f)
def Ed2 (n : Nat) (f g : Nat → Int32) (o q : Option (Int32 × (Nat → Int32))) : Prop := ∃ r f' g', o = some (r, f') ∧ q = some (r, g') ∧ Two n f' g' ∧ (r = RF → f' = f)
theorem Ed3.no {n : Nat} {f g : Nat → Int32} (h : Two n f g) : Ed3 n f g (some (RF, nI n, f)) (some (RF, nI n, g)) := ⟨_, n, _, _, rfl, rfl, h, fun _ => ⟨rfl, rfl⟩⟩
theorem Ed2.no {n : Nat} {f g : Nat → Int32} (h : Two n f g) : Ed2 n f g (some (RF, f)) (some (RF, g)) := ⟨_, _, _, rfl, rfl, h, fun _ => rfl⟩
theorem ed_append {N n : Nat} {f g : Nat → Int32} (hN : 100 ≤ N) (h : Two n f g) (p1 : Int32) : Ed3 n f g (fL_append N (nI n) f p1) (fL_append N (nI n) g p1) := by
  have hn := h.le
  unfold fL_append fX8_append
  rcases argC N p1 (0 : Int32) (25 : Int32) 0 25 rfl rfl (by decide) with ⟨l, rfl, _, hl, h1⟩ | h1
  · rw [h1, bx_r, bx_r]
    by_cases hr : n < 64
    · obtain ⟨f2, h3, h4⟩ := push_nI (v := nI l) hN hr f
      obtain ⟨g2, k3, k4⟩ := push_nI (v := nI l) hN hr g
      rw [q_1, room_yes (by omega), bx_r, bx_r, h3, k3]
      exact ⟨_, n + 1, f2, g2, rfl, rfl, two_open h hr (Nat.le_refl n) hl h4 k4, fun e => absurd e (nI_RF (by omega))⟩
    · rw [q_1, room_no (by omega) (by omega)]
      exact Ed3.no h
  · rw [h1]
    exact Ed3.no h
theorem ed_insert {N n : Nat} {f g : Nat → Int32} (hN : 100 ≤ N) (h : Two n f g) (p1 p2 : Int32) : Ed3 n f g (fL_insert N (nI n) f p1 p2) (fL_insert N (nI n) g p1 p2) := by
  have hn := h.le
  unfold fL_insert fX8_insert fX2_count
  rw [bn_s, bn_s, nI_1]
  rcases idxC N p1 (n + 1) (by omega) with ⟨a, rfl, ha, g1⟩ | g1
  · rw [g1, bx_r, bx_r]
    rcases argC N p2 (0 : Int32) (25 : Int32) 0 25 rfl rfl (by decide) with ⟨l, rfl, _, hl, h1⟩ | h1
    · rw [h1, bx_r, bx_r]
      by_cases hr : n < 64
      · obtain ⟨f2, h3, h4⟩ := open_nI (v := nI l) hN hr (show a ≤ n by omega) f
        obtain ⟨g2, k3, k4⟩ := open_nI (v := nI l) hN hr (show a ≤ n by omega) g
        rw [q_1, room_yes (by omega), bx_r, bx_r, h3, k3]
        exact ⟨_, n + 1, f2, g2, rfl, rfl, two_open h hr (by omega) hl h4 k4, fun e => absurd e (nI_RF (by omega))⟩
      · rw [q_1, room_no (by omega) (by omega)]
        exact Ed3.no h
    · rw [h1]
      exact Ed3.no h
  · rw [g1]
    exact Ed3.no h
theorem ed_set {N n : Nat} {f g : Nat → Int32} (h : Two n f g) (p1 p2 : Int32) : Ed2 n f g (fL_set N (nI n) f p1 p2) (fL_set N (nI n) g p1 p2) := by
  have hn := h.le
  unfold fL_set fX8_set fX2_count
  rw [bn_s, bn_s]
  rcases idxC N p1 n (by omega) with ⟨a, rfl, ha, g1⟩ | g1
  · rw [g1, bx_r, bx_r]
    rcases argC N p2 (0 : Int32) (25 : Int32) 0 25 rfl rfl (by decide) with ⟨l, rfl, _, hl, h1⟩ | h1
    · rw [h1, bx_r, bx_r, letter_nI (by omega), letter_nI (by omega)]
      unfold fX2_write
      rw [bn_s, bn_s, put_nI (by omega) (by decide), put_nI (by omega) (by decide), h.eq ha]
      obtain ⟨v, hv, hv2⟩ := (h.2 a ha).2
      refine ⟨_, upd f a (nI l), upd g a (nI l), rfl, rfl, ⟨hn, fun j hj => ?_⟩, fun e => absurd e (by rw [hv2]; exact nI_RF (by omega))⟩
      by_cases e : j = a
      · rw [e, pk_us, pk_us]; exact ⟨rfl, l, hl, rfl⟩
      · rw [pk_un e, pk_un e]; exact h.2 j hj
    · rw [h1]
      exact Ed2.no h
  · rw [g1]
    exact Ed2.no h
theorem ed_remove {N n : Nat} {f g : Nat → Int32} (hN : 100 ≤ N) (h : Two n f g) (p1 : Int32) : Ed3 n f g (fL_remove N (nI n) f p1) (fL_remove N (nI n) g p1) := by
  have hn := h.le
  unfold fL_remove fX8_remove fX2_count
  rw [bn_s, bn_s]
  rcases idxC N p1 n (by omega) with ⟨a, rfl, ha, g1⟩ | g1
  · rw [g1, bx_r, bx_r]
    unfold fX2_take
    obtain ⟨f2, h3, h4, h5⟩ := take_H (N := N) (v := f a) hn (by omega) (n - (a + 1)) (a + 1) N f (by omega) (by omega) (by omega)
    obtain ⟨g2, k3, k4, k5⟩ := take_H (N := N) (v := g a) hn (by omega) (n - (a + 1)) (a + 1) N g (by omega) (by omega) (by omega)
    rw [at_nI (by omega) (by decide), at_nI (by omega) (by decide), bn_s, bn_s, q_1, nI_add, h3, k3, h.eq ha]
    obtain ⟨v, hv, hv2⟩ := (h.2 a ha).2
    refine ⟨_, n - 1, f2, g2, rfl, rfl, ⟨by omega, fun j hj => ?_⟩, fun e => absurd e (by rw [hv2]; exact nI_RF (by omega))⟩
    by_cases e : j < a
    · rw [h4 j (by omega), k4 j (by omega)]; exact h.2 j (by omega)
    · rw [h5 j (by omega) (by omega), k5 j (by omega) (by omega)]; exact h.2 (j + 1) (by omega)
  · rw [g1]
    exact Ed3.no h
theorem ed_reverse {N n : Nat} {f g : Nat → Int32} (hN : 100 ≤ N) (h : Two n f g) : Ed2 n f g (fX8_reverse N (nI n) f) (fX8_reverse N (nI n) g) := by
  have hn := h.le
  obtain ⟨f2, h1, h2, h3⟩ := turn_nI (N := N) (Tn := nI n) hN (Nat.zero_le n) hn f
  obtain ⟨g2, k1, k2, k3⟩ := turn_nI (N := N) (Tn := nI n) hN (Nat.zero_le n) hn g
  refine ⟨nI n, f2, g2, ?_, ?_, ⟨hn, fun j hj => ?_⟩, fun e => absurd e (nI_RF (by omega))⟩
  · unfold fX8_reverse
    show bn (fX2_turn N (nI n) f (nI 0) (nI n)) _ = _
    rw [h1]; rfl
  · unfold fX8_reverse
    show bn (fX2_turn N (nI n) g (nI 0) (nI n)) _ = _
    rw [k1]; rfl
  · have e := h2 j (by omega)
    have e2 := k2 j (by omega)
    rw [Nat.zero_add] at e e2
    rw [e, e2]
    exact h.2 (n - 1 - j) (by omega)
theorem rotC {N n c : Nat} (hN : 100 ≤ N) (hn : n ≤ 64) (h0 : ¬ n = 0) (hc : c ≤ 63) (f : Nat → Int32) : ∃ f3, fX8_rotate N (nI n) f (nI c) = some (.inr (f3 0, f3)) ∧ ∀ j, j < n → f3 j = f ((j + c) % n) := by
  have hs : c % n < n := Nat.mod_lt _ (by omega)
  obtain ⟨f1, a1, a2, a3⟩ := turn_nI (N := N) (Tn := nI n) hN (Nat.zero_le (c % n)) (by omega) f
  obtain ⟨f2, b1, b2, b3⟩ := turn_nI (N := N) (Tn := nI n) hN (show c % n ≤ n by omega) hn f1
  obtain ⟨f3, c1, c2, c3⟩ := turn_nI (N := N) (Tn := nI n) hN (Nat.zero_le n) hn f2
  have hne : ¬ nI n = 0 := by rw [nI_z (by omega)]; exact h0
  refine ⟨f3, ?_, fun j hj => ?_⟩
  · unfold fX8_rotate fX2_count
    rw [show (0 : Int32) = nI 0 from rfl, show (63 : Int32) = nI 63 from rfl, argOk N (Nat.zero_le c) hc (by decide), bx_r, bn_s, if_neg (show ¬ nI n = nI 0 from hne), q_nz (by omega) (by omega), gd_t, pk_rem (by omega) (by omega) (by omega), a1, bn_s, b1, bn_s, c1, bn_s, letter_nI (by omega), bn_s]
  · have e1 := c2 j (by omega)
    rw [Nat.zero_add] at e1
    rw [e1]
    have hd := Nat.div_add_mod c n
    have hmod : (j + c) % n = (j + c % n) % n := by rw [Nat.add_mod, Nat.mod_eq_of_lt hj]
    by_cases e : j < n - c % n
    · have e2 := b2 (n - 1 - j - c % n) (by omega)
      rw [show c % n + (n - 1 - j - c % n) = n - 1 - j by omega, show n - 1 - (n - 1 - j - c % n) = j + c % n by omega] at e2
      rw [e2, a3 _ (by omega), hmod, Nat.mod_eq_of_lt (show j + c % n < n by omega)]
    · have e2 := a2 (n - 1 - j) (by omega)
      rw [Nat.zero_add] at e2
      rw [b3 _ (by omega), e2, hmod, Nat.mod_eq_sub_mod (show j + c % n ≥ n by omega), Nat.mod_eq_of_lt (show j + c % n - n < n by omega)]
      congr 1; omega
theorem ed_rotate {N n : Nat} {f g : Nat → Int32} (hN : 100 ≤ N) (h : Two n f g) (p1 : Int32) : Ed2 n f g (fL_rotate N (nI n) f p1) (fL_rotate N (nI n) g p1) := by
  have hn := h.le
  rcases argC N p1 (0 : Int32) (63 : Int32) 0 63 rfl rfl (by decide) with ⟨c, rfl, _, hc, h1⟩ | h1
  · by_cases h0 : n = 0
    · unfold fL_rotate fX8_rotate fX2_count
      rw [h1, bx_r, bx_r, bn_s, bn_s, if_pos (by rw [h0]; rfl), if_pos (by rw [h0]; rfl)]
      exact Ed2.no h
    · obtain ⟨f3, a1, a2⟩ := rotC hN hn h0 hc f
      obtain ⟨g3, b1, b2⟩ := rotC hN hn h0 hc g
      unfold fL_rotate
      rw [a1, b1]
      have hT : Two n f3 g3 := ⟨hn, fun j hj => by rw [a2 j hj, b2 j hj]; exact h.2 _ (Nat.mod_lt _ (by omega))⟩
      obtain ⟨v, hv, hv2⟩ := (hT.2 0 (by omega)).2
      refine ⟨f3 0, f3, g3, rfl, ?_, hT, fun e => absurd e (by rw [hv2]; exact nI_RF (by omega))⟩
      rw [← hT.eq (show 0 < n by omega)]
      rfl
  · unfold fL_rotate fX8_rotate
    rw [h1]
    exact Ed2.no h
theorem ed_copy {N n : Nat} {f g : Nat → Int32} (hN : 100 ≤ N) (h : Two n f g) (p1 p2 : Int32) : Ed3 n f g (fL_copy N (nI n) f p1 p2) (fL_copy N (nI n) g p1 p2) := by
  have hn := h.le
  unfold fL_copy fX8_appendPart
  rcases partC N p1 p2 n hn with ⟨a, b, rfl, rfl, hab, hb, g1⟩ | g1
  · rw [g1, bx_r, bx_r, q_sub (by omega)]
    by_cases hr : n + (b - a) ≤ 64
    · rw [room_yes hr, bx_r, bx_r]
      obtain ⟨f1, a1, a2, a3⟩ := appC_H (N := N) hN hb hr f (b - a) a N f (by omega) (by omega) (by omega) (fun j hj => rfl) (fun j hj => by omega)
      obtain ⟨f2, b1, b2, b3⟩ := appC_H (N := N) hN hb hr g (b - a) a N g (by omega) (by omega) (by omega) (fun j hj => rfl) (fun j hj => by omega)
      rw [show n + (a - a) = n by omega] at a1 b1
      rw [a1, b1]
      refine ⟨_, n + (b - a), f1, f2, rfl, rfl, ⟨hr, fun j hj => ?_⟩, fun e => absurd e (nI_RF (by omega))⟩
      by_cases e : j < n
      · rw [a2 j e, b2 j e]; exact h.2 j e
      · obtain ⟨i, rfl⟩ : ∃ i, j = n + i := ⟨j - n, by omega⟩
        rw [a3 i (by omega), b3 i (by omega)]; exact h.2 (a + i) (by omega)
    · rw [room_no hr (by omega)]
      exact Ed3.no h
  · rw [g1]
    exact Ed3.no h
