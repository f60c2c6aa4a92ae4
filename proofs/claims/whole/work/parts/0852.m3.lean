/-! the reference: parts compared, Lyndon parts, the longest Lyndon word -/
theorem pI_z {p : Prop} : pI p = 0 ↔ ¬ p := pI_0
theorem nI_z {a : Nat} (h : a < 2 ^ 31) : nI a = 0 ↔ a = 0 := by rw [q_0, nI_eq h (by decide)]
theorem same_H {N n : Nat} {Mh Mn Mm : Int32} {w : Nat → Nat} {Mt : Nat → Int32} (h : Rp n w Mt) {a b c e : Nat} (hb : b ≤ n) (he : e ≤ n) : ∀ d k z, k + d = min (b - a) (e - c) → a ≤ b → c ≤ e → d < z → fX9_same_H3 N Mh Mn Mm Mt z (nI a) (nI b) (nI c) (nI e) (nI k) = some (nI (lf (fun k => w (a + k) ≠ w (c + k)) k d)) := by
  have hn := h.le
  intro d
  induction d with
  | zero =>
    intro k z hk hab hce hz
    obtain ⟨z, rfl⟩ : ∃ y, z = y + 1 := ⟨z - 1, by omega⟩
    show fX9_same_B3 N Mh Mn Mm Mt _ _ _ _ _ _ = _
    unfold fX9_same_B3
    by_cases hq : b ≤ a + k
    · simp (disch := omega) only [nI_leI, if_pos, nI_add, lf_0]
      rfl
    · simp (disch := omega) only [nI_leI, if_neg, if_pos, nI_add, lf_0]
      rfl
  | succ d ih =>
    intro k z hk hab hce hz
    obtain ⟨z, rfl⟩ : ∃ y, z = y + 1 := ⟨z - 1, by omega⟩
    show fX9_same_B3 N Mh Mn Mm Mt _ _ _ _ _ _ = _
    unfold fX9_same_B3
    simp (disch := omega) only [nI_leI, if_neg, nI_add, q_inb, gd_t, nI_clamp, q_1]
    rw [h.at (show a + k < n by omega), h.at (show c + k < n by omega)]
    by_cases e : w (a + k) = w (c + k)
    · rw [if_pos (by rw [e]), lf_f (by simpa using e)]
      exact ih (k + 1) z (by omega) hab hce (by omega)
    · rw [if_neg (by rw [h.eq (by omega) (by omega)]; exact e), lf_t e]
      rfl
theorem same_nI {N n : Nat} {Mh Mn Mm : Int32} {w : Nat → Nat} {Mt : Nat → Int32} (hN : 100 ≤ N) (h : Rp n w Mt) {a b c e : Nat} (hab : a ≤ b) (hb : b ≤ n) (hce : c ≤ e) (he : e ≤ n) : fX9_same N Mh Mn Mm Mt (nI a) (nI b) (nI c) (nI e) = some (nI (lf (fun k => w (a + k) ≠ w (c + k)) 0 (min (b - a) (e - c)))) := by
  have hn := h.le
  unfold fX9_same
  rw [q_0]
  exact same_H h hb he _ 0 N (by omega) hab hce (by omega)
/-- the part [a, b) is less than the part [c, e) -/
def PL (r : Bool) (w : Nat → Nat) (a b c e : Nat) : Prop := (∃ k, a + k < b ∧ c + k < e ∧ (∀ j, j < k → w (a + j) = w (c + j)) ∧ ltR r (w (a + k)) (w (c + k))) ∨ (b - a < e - c ∧ ∀ j, j < b - a → w (a + j) = w (c + j))
theorem PL_at {r : Bool} {w : Nat → Nat} {a b c e k : Nat} (h1 : a + k < b) (h2 : c + k < e) (h3 : ∀ j, j < k → w (a + j) = w (c + j)) (h4 : w (a + k) ≠ w (c + k)) : PL r w a b c e ↔ ltR r (w (a + k)) (w (c + k)) := by
  constructor
  · intro h
    rcases h with ⟨x, g1, g2, g3, g4⟩ | ⟨g1, g2⟩
    · rcases Nat.lt_trichotomy x k with hx | hx | hx
      · exact absurd (h3 x hx) (ltR_ne g4)
      · rw [← hx]; exact g4
      · exact absurd (g3 k hx) h4
    · exact absurd (g2 k (by omega)) h4
  · intro h
    exact Or.inl ⟨k, h1, h2, h3, h⟩
theorem PL_all {r : Bool} {w : Nat → Nat} {a b c e : Nat} (h3 : ∀ j, j < min (b - a) (e - c) → w (a + j) = w (c + j)) : PL r w a b c e ↔ b - a < e - c := by
  constructor
  · intro h
    rcases h with ⟨x, g1, g2, g3, g4⟩ | ⟨g1, g2⟩
    · exact absurd (h3 x (by omega)) (ltR_ne g4)
    · exact g1
  · intro h
    exact Or.inr ⟨h, fun j hj => h3 j (by omega)⟩
theorem dR_toI {r : Bool} {x y : Nat} (hx : x ≤ 25) (hy : y ≤ 25) : (dR r (nI x - nI y)).toInt = match r with | false => (x : Int) - y | true => (y : Int) - x := by
  cases r with
  | false => exact d_toInt (by omega) (by omega)
  | true => exact d_neg (by omega) (by omega)
theorem dR_iff {r : Bool} {x y : Nat} (hx : x ≤ 25) (hy : y ≤ 25) : (dR r (nI x - nI y) < 0 ↔ ltR r x y) ∧ (0 < dR r (nI x - nI y) ↔ ltR r y x) ∧ (0 ≤ dR r (nI x - nI y) ↔ ¬ ltR r x y) := by
  have h0 : (0 : Int32).toInt = 0 := rfl
  rw [Int32.lt_iff_toInt_lt, Int32.lt_iff_toInt_lt, Int32.le_iff_toInt_le, dR_toI hx hy, h0]
  cases r <;> simp only [ltR] <;> omega
theorem order_nI {N n : Nat} {Mh Mn Mm : Int32} {w : Nat → Nat} {Mt : Nat → Int32} (hN : 100 ≤ N) (h : Rp n w Mt) (r : Bool) (rv : Int32) (hrv : rv = 0 ↔ r = false) {a b c e : Nat} (hab : a ≤ b) (hb : b ≤ n) (hce : c ≤ e) (he : e ≤ n) : ∃ v, fX9_order N Mh Mn Mm Mt (nI a) (nI b) (nI c) (nI e) rv = some v ∧ (v < 0 ↔ PL r w a b c e) ∧ (0 < v ↔ PL r w c e a b) ∧ (0 ≤ v ↔ ¬ PL r w a b c e) := by
  have hn := h.le
  obtain ⟨g1, g2, g3, g4⟩ := lf_spec (fun k => w (a + k) ≠ w (c + k)) (min (b - a) (e - c)) 0
  unfold fX9_order
  rw [same_nI hN h hab hb hce he, bn_s]
  generalize lf (fun k => w (a + k) ≠ w (c + k)) 0 (min (b - a) (e - c)) = k at g1 g2 g3 g4
  have g5 : ∀ j, j < k → w (a + j) = w (c + j) := fun j hj => Classical.byContradiction fun hh => g3 j (by omega) hj hh
  by_cases hk : k < min (b - a) (e - c)
  · have g6 : w (a + k) ≠ w (c + k) := g4 (by omega)
    simp (disch := omega) only [nI_add, nI_leI, if_neg, q_inb, gd_t, nI_clamp]
    rw [h.at (show a + k < n by omega), h.at (show c + k < n by omega)]
    have b1 := h.b (show a + k < n by omega)
    have b2 := h.b (show c + k < n by omega)
    have hd := dR_iff (r := r) b1 b2
    refine ⟨dR r (nI (w (a + k)) - nI (w (c + k))), ?_, ?_, ?_, ?_⟩
    · by_cases hr : r = false
      · rw [if_pos (hrv.mpr hr), hr]; rfl
      · have hr2 : r = true := by cases r <;> simp at hr ⊢
        rw [if_neg (fun hh => hr (hrv.mp hh)), hr2]; rfl
    · rw [PL_at (by omega) (by omega) g5 g6]; exact hd.1
    · rw [PL_at (by omega) (by omega) (fun j hj => (g5 j hj).symm) (fun hh => g6 hh.symm)]; exact hd.2.1
    · rw [PL_at (by omega) (by omega) g5 g6]; exact hd.2.2
  · have hkm : k = min (b - a) (e - c) := by omega
    refine ⟨nI (b - a) - nI (e - c), ?_, ?_, ?_, ?_⟩
    · by_cases hq : b ≤ a + k
      · simp (disch := omega) only [nI_add, nI_leI, if_pos]
        unfold fX9_order_J63
        simp (disch := omega) only [q_sub]
      · simp (disch := omega) only [nI_add, nI_leI, if_neg, if_pos]
        unfold fX9_order_J63
        simp (disch := omega) only [q_sub]
    · rw [PL_all (by rw [← hkm]; exact g5)]; exact d_lt (by omega) (by omega)
    · rw [PL_all (by rw [Nat.min_comm, ← hkm]; exact fun j hj => (g5 j hj).symm)]; exact d_gt (by omega) (by omega)
    · rw [PL_all (by rw [← hkm]; exact g5)]
      have := d_ge (a := b - a) (b := e - c) (by omega) (by omega)
      rw [q_0, this]; omega
theorem PL_LY {r : Bool} {w : Nat → Nat} {a b : Nat} : (∀ t, a + 1 ≤ t → t < b → PL r w a b t b) ↔ LY r w a b := by
  constructor
  · intro h s h1 h2
    rcases h s h1 h2 with ⟨k, g1, g2, g3, g4⟩ | ⟨g1, g2⟩
    · exact ⟨k, g2, g3, g4⟩
    · omega
  · intro h t h1 h2
    obtain ⟨k, g2, g3, g4⟩ := h t h1 h2
    exact Or.inl ⟨k, by omega, g2, g3, g4⟩
theorem lyndonPart_H {N n : Nat} {Mh Mn Mm : Int32} {w : Nat → Nat} {Mt : Nat → Int32} (hN : 100 ≤ N) (h : Rp n w Mt) (r : Bool) (rv : Int32) (hrv : rv = 0 ↔ r = false) {a b : Nat} (hb : b ≤ n) : ∀ d s z (P : Prop), s + d = b → a ≤ s → d < z → fX9_lyndonPart_H8 N Mh Mn Mm Mt z (nI a) (nI b) rv (pI P) (nI s) = some (pI (P ∧ ∀ t, s ≤ t → t < b → PL r w a b t b)) := by
  have hn := h.le
  intro d
  induction d with
  | zero =>
    intro s z P hs has hz
    obtain ⟨z, rfl⟩ : ∃ y, z = y + 1 := ⟨z - 1, by omega⟩
    show fX9_lyndonPart_B8 N Mh Mn Mm Mt _ _ _ _ _ _ = _
    unfold fX9_lyndonPart_B8
    simp (disch := omega) only [nI_leI, if_pos]
    unfold fX9_lyndonPart_J45
    rw [pI_B, gd_t]
    exact congrArg some (pI_iff ⟨fun hp => ⟨hp, fun t h1 h2 => by omega⟩, fun hp => hp.1⟩)
  | succ d ih =>
    intro s z P hs has hz
    obtain ⟨z, rfl⟩ : ∃ y, z = y + 1 := ⟨z - 1, by omega⟩
    show fX9_lyndonPart_B8 N Mh Mn Mm Mt _ _ _ _ _ _ = _
    unfold fX9_lyndonPart_B8
    rw [if_neg (by rw [nI_leI (by omega) (by omega)]; omega)]
    by_cases hP : P
    · rw [if_neg (by rw [pI_z]; exact fun hh => hh hP)]
      obtain ⟨v, h1, h2, h3, h4⟩ := order_nI (Mh := Mh) (Mn := Mn) (Mm := Mm) hN h r rv hrv (a := a) (b := b) (c := s) (e := b) (by omega) hb (by omega) hb
      rw [h1, bn_s]
      by_cases hv : PL r w a b s b
      · rw [if_neg (by rw [h4]; exact fun hh => hh hv)]
        show fX9_lyndonPart_H8 N Mh Mn Mm Mt z (nI a) (nI b) rv (nI 1) (nI s + nI 1) = _
        rw [nI_add, ← pI_t (p := True) trivial, ih (s + 1) z True (by omega) (by omega) (by omega)]
        exact congrArg some (pI_iff ⟨fun hp => ⟨hP, fun t g1 g2 => by
          by_cases e : t = s
          · rw [e]; exact hv
          · exact hp.2 t (by omega) g2⟩, fun hp => ⟨trivial, fun t g1 g2 => hp.2 t (by omega) g2⟩⟩)
      · rw [if_pos (by rw [h4]; exact hv)]
        show fX9_lyndonPart_H8 N Mh Mn Mm Mt z (nI a) (nI b) rv (nI 0) (nI s + nI 1) = _
        rw [nI_add, ← pI_f (p := False) id, ih (s + 1) z False (by omega) (by omega) (by omega)]
        exact congrArg some (pI_iff ⟨fun hp => hp.1.elim, fun hp => absurd (hp.2 s (by omega) (by omega)) hv⟩)
    · rw [if_pos (by rw [pI_z]; exact hP)]
      show fX9_lyndonPart_H8 N Mh Mn Mm Mt z (nI a) (nI b) rv (nI 0) (nI s + nI 1) = _
      rw [nI_add, ← pI_f (p := False) id, ih (s + 1) z False (by omega) (by omega) (by omega)]
      exact congrArg some (pI_iff ⟨fun hp => hp.1.elim, fun hp => absurd hp.1 hP⟩)
theorem lyndonPart_nI {N n : Nat} {Mh Mn Mm : Int32} {w : Nat → Nat} {Mt : Nat → Int32} (hN : 100 ≤ N) (h : Rp n w Mt) (r : Bool) (rv : Int32) (hrv : rv = 0 ↔ r = false) {a b : Nat} (hab : a < b) (hb : b ≤ n) : fX9_lyndonPart N Mh Mn Mm Mt (nI a) (nI b) rv = some (pI (LY r w a b)) := by
  have hn := h.le
  unfold fX9_lyndonPart
  rw [q_1, nI_add]
  rw [show nI 1 = pI True from (pI_t trivial).symm, lyndonPart_H hN h r rv hrv hb (b - (a + 1)) (a + 1) N True (by omega) (by omega) (by omega)]
  exact congrArg some (pI_iff ⟨fun hp => PL_LY.mp hp.2, fun hp => ⟨trivial, PL_LY.mpr hp⟩⟩)
theorem longest_H {N n : Nat} {Mh Mn Mm : Int32} {w : Nat → Nat} {Mt : Nat → Int32} (hN : 100 ≤ N) (h : Rp n w Mt) (r : Bool) (rv : Int32) (hrv : rv = 0 ↔ r = false) {a b : Nat} (hb : b ≤ n) : ∀ d z, a + d + 1 ≤ b → d < z → (∀ g, d + 1 < g → a + g ≤ b → ¬ LY r w a (a + g)) → ∃ f, IsLong r w a b f ∧ fX9_longest_H5 N Mh Mn Mm Mt z (nI a) rv (nI (a + d + 1)) = some (nI f) := by
  have hn := h.le
  intro d
  induction d with
  | zero =>
    intro z hd hz hg
    obtain ⟨z, rfl⟩ : ∃ y, z = y + 1 := ⟨z - 1, by omega⟩
    refine ⟨1, ⟨by omega, by omega, LY_one (by omega), hg⟩, ?_⟩
    show fX9_longest_B5 N Mh Mn Mm Mt _ _ _ _ = _
    unfold fX9_longest_B5
    rw [lyndonPart_nI hN h r rv hrv (by omega) (by omega), bn_s, if_neg (by rw [pI_z]; exact fun hh => hh (LY_one (by omega)))]
    unfold fX9_longest_J21
    rw [q_sub (by omega)]
    congr 2; omega
  | succ d ih =>
    intro z hd hz hg
    obtain ⟨z, rfl⟩ : ∃ y, z = y + 1 := ⟨z - 1, by omega⟩
    by_cases hL : LY r w a (a + (d + 1) + 1)
    · refine ⟨d + 1 + 1, ⟨by omega, by omega, hL, hg⟩, ?_⟩
      show fX9_longest_B5 N Mh Mn Mm Mt _ _ _ _ = _
      unfold fX9_longest_B5
      rw [lyndonPart_nI hN h r rv hrv (by omega) (by omega), bn_s, if_neg (by rw [pI_z]; exact fun hh => hh hL)]
      unfold fX9_longest_J21
      rw [q_sub (by omega)]
      congr 2; omega
    · obtain ⟨f, h1, h2⟩ := ih z (by omega) (by omega) (fun g g1 g2 => by
        by_cases e : g = d + 1 + 1
        · rw [e]; exact hL
        · exact hg g (by omega) g2)
      refine ⟨f, h1, ?_⟩
      show fX9_longest_B5 N Mh Mn Mm Mt _ _ _ _ = _
      unfold fX9_longest_B5
      rw [lyndonPart_nI hN h r rv hrv (by omega) (by omega), bn_s, if_pos (by rw [pI_z]; exact hL)]
      show fX9_longest_H5 N Mh Mn Mm Mt z (nI a) rv (nI (a + (d + 1) + 1) + -nI 1) = _
      rw [q_m1 (by omega)]
      exact h2
theorem longest_nI {N n : Nat} {Mh Mm : Int32} {w : Nat → Nat} {Mt : Nat → Int32} (hN : 100 ≤ N) (h : Rp n w Mt) (r : Bool) (rv : Int32) (hrv : rv = 0 ↔ r = false) {a : Nat} (ha : a < n) : fX9_longest N Mh (nI n) Mm Mt (nI a) rv = some (nI (ll r w a n)) ∧ IsLong r w a n (ll r w a n) := by
  have hn := h.le
  obtain ⟨f, h1, h2⟩ := longest_H (Mh := Mh) (Mn := nI n) (Mm := Mm) hN h r rv hrv (a := a) (Nat.le_refl n) (n - a - 1) N (by omega) (by omega) (fun g g1 g2 => by omega)
  rw [show a + (n - a - 1) + 1 = n by omega] at h2
  rw [ll_eq h1]
  exact ⟨h2, h1⟩
