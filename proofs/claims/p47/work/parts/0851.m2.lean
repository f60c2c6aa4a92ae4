/-! Lyndon words -/
theorem d_toInt {a b : Nat} (ha : a < 2 ^ 30) (hb : b < 2 ^ 30) : (nI a - nI b).toInt = (a : Int) - b := pk_sub_toInt ha hb
theorem d_neg {a b : Nat} (ha : a < 2 ^ 30) (hb : b < 2 ^ 30) : (-(nI a - nI b)).toInt = (b : Int) - a := by
  have h := d_toInt ha hb
  rw [Int32.toInt_neg, h]
  rw [Int.bmod_eq_of_le (by omega) (by omega)]
  omega
theorem d_ge {a b : Nat} (ha : a < 2 ^ 30) (hb : b < 2 ^ 30) : nI 0 ≤ nI a - nI b ↔ b ≤ a := by
  rw [Int32.le_iff_toInt_le, d_toInt ha hb, nI_toInt (by decide)]; omega
theorem d_le {a b : Nat} (ha : a < 2 ^ 30) (hb : b < 2 ^ 30) : nI a - nI b ≤ nI 0 ↔ a ≤ b := by
  rw [Int32.le_iff_toInt_le, d_toInt ha hb, nI_toInt (by decide)]; omega
theorem d_lt {a b : Nat} (ha : a < 2 ^ 30) (hb : b < 2 ^ 30) : nI a - nI b < nI 0 ↔ a < b := by
  rw [Int32.lt_iff_toInt_lt, d_toInt ha hb, nI_toInt (by decide)]; omega
theorem d_gt {a b : Nat} (ha : a < 2 ^ 30) (hb : b < 2 ^ 30) : nI 0 < nI a - nI b ↔ b < a := by
  rw [Int32.lt_iff_toInt_lt, d_toInt ha hb, nI_toInt (by decide)]; omega
theorem dn_ge {a b : Nat} (ha : a < 2 ^ 30) (hb : b < 2 ^ 30) : nI 0 ≤ -(nI a - nI b) ↔ a ≤ b := by
  rw [Int32.le_iff_toInt_le, d_neg ha hb, nI_toInt (by decide)]; omega
theorem dn_le {a b : Nat} (ha : a < 2 ^ 30) (hb : b < 2 ^ 30) : -(nI a - nI b) ≤ nI 0 ↔ b ≤ a := by
  rw [Int32.le_iff_toInt_le, d_neg ha hb, nI_toInt (by decide)]; omega
/-- one of the two orders of letters -/
def ltR (r : Bool) (x y : Nat) : Prop := match r with
  | true => y < x
  | false => x < y
theorem ltR_irr {r : Bool} {x : Nat} : ¬ ltR r x x := by cases r <;> simp [ltR]
theorem ltR_asym {r : Bool} {x y : Nat} (h : ltR r x y) : ¬ ltR r y x := by cases r <;> simp only [ltR] at h ⊢ <;> omega
theorem ltR_trans {r : Bool} {x y z : Nat} (h : ltR r x y) (h2 : ltR r y z) : ltR r x z := by cases r <;> simp only [ltR] at h h2 ⊢ <;> omega
theorem ltR_tri (r : Bool) (x y : Nat) : ltR r x y ∨ x = y ∨ ltR r y x := by cases r <;> simp only [ltR] <;> omega
theorem ltR_ne {r : Bool} {x y : Nat} (h : ltR r x y) : x ≠ y := fun e => ltR_irr (e ▸ h)
/-- the part is less than each of its own suffixes -/
def LY (r : Bool) (w : Nat → Nat) (a b : Nat) : Prop := ∀ s, a < s → s < b → ∃ k, s + k < b ∧ (∀ j, j < k → w (a + j) = w (s + j)) ∧ ltR r (w (a + k)) (w (s + k))
theorem LY_one {r : Bool} {w : Nat → Nat} {a b : Nat} (h : b ≤ a + 1) : LY r w a b := fun s h1 h2 => by omega
theorem per_img {w : Nat → Nat} {a p e : Nat} (hp : 1 ≤ p) (hper : ∀ x, a + p ≤ x → x < e → w x = w (x - p)) : ∀ d, a + d < e → w (a + d) = w (a + d % p) := by
  intro d
  induction d using Nat.strongRecOn with
  | _ d ih =>
    intro h
    by_cases hd : d < p
    · rw [Nat.mod_eq_of_lt hd]
    · rw [hper (a + d) (by omega) h, show a + d - p = a + (d - p) by omega, ih (d - p) (by omega) (by omega), ← Nat.mod_eq_sub_mod (show d ≥ p by omega)]
theorem mod_add_lt {d p r j : Nat} (h : d % p = r) (h2 : r + j < p) : (d + j) % p = r + j := by
  rw [Nat.add_mod, h, Nat.mod_eq_of_lt (show j < p by omega), Nat.mod_eq_of_lt h2]
theorem LY_ext {r : Bool} {w : Nat → Nat} {a p e : Nat} (hp : 1 ≤ p) (hL : LY r w a (a + p)) (he : a + p ≤ e) (hper : ∀ x, a + p ≤ x → x < e → w x = w (x - p)) (hlt : ltR r (w (e - p)) (w e)) : LY r w a (e + 1) := by
  have himg := per_img hp hper
  intro s hs1 hs2
  obtain ⟨d, rfl⟩ : ∃ d, s = a + d := ⟨s - a, by omega⟩
  have hrp : d % p < p := Nat.mod_lt _ (by omega)
  by_cases h0 : d % p = 0
  · -- a whole number of periods behind
    have hdp : p ≤ d := by
      rcases Nat.lt_or_ge d p with h | h
      · rw [Nat.mod_eq_of_lt h] at h0; omega
      · exact h
    refine ⟨e - (a + d), by omega, fun j hj => ?_, ?_⟩
    · rw [show a + d + j = a + (d + j) by omega, himg (d + j) (by omega), himg j (by omega), Nat.add_mod, h0, Nat.zero_add, Nat.mod_mod]
    · have h1 : w (a + (e - (a + d))) = w (e - p) := by
        rw [himg _ (by omega), show e - p = a + (e - p - a) by omega, himg (e - p - a) (by omega)]
        congr 2
        obtain ⟨c, hc⟩ : ∃ c, d = p * c := ⟨d / p, by have := Nat.div_add_mod d p; omega⟩
        have hc1 : 1 ≤ c := by
          rcases Nat.eq_zero_or_pos c with h | h
          · rw [h] at hc; omega
          · exact h
        obtain ⟨c', rfl⟩ : ∃ c', c = c' + 1 := ⟨c - 1, by omega⟩
        have h3 : e - p - a = (e - (a + d)) + p * c' := by
          rw [hc, Nat.mul_add] ; rw [hc, Nat.mul_add] at hs2; omega
        rw [h3, Nat.add_mul_mod_self_left]
      rw [h1, show a + d + (e - (a + d)) = e by omega]
      exact hlt
  · obtain ⟨k0, hk1, hk2, hk3⟩ := hL (a + d % p) (by omega) (by omega)
    by_cases hlast : a + d + k0 < e
    · refine ⟨k0, by omega, fun j hj => ?_, ?_⟩
      · rw [hk2 j hj, show a + d + j = a + (d + j) by omega, himg (d + j) (by omega), mod_add_lt rfl (by omega)]
        congr 1; omega
      · rw [show a + d + k0 = a + (d + k0) by omega, himg (d + k0) (by omega), mod_add_lt rfl (by omega), show a + (d % p + k0) = a + d % p + k0 by omega]
        exact hk3
    · have hk4 : e - (a + d) ≤ k0 := by omega
      have h5 : w (e - p) = w (a + d % p + (e - (a + d))) := by
        have hm : (d + (e - (a + d))) % p = d % p + (e - (a + d)) := mod_add_lt rfl (by omega)
        rw [show e - p = a + (e - p - a) by omega, himg (e - p - a) (by omega)]
        rw [show d + (e - (a + d)) = (e - p - a) + p by omega, Nat.add_mod_right] at hm
        rw [hm]
        congr 1; omega
      refine ⟨e - (a + d), by omega, fun j hj => ?_, ?_⟩
      · rw [hk2 j (by omega), show a + d + j = a + (d + j) by omega, himg (d + j) (by omega), mod_add_lt rfl (by omega)]
        congr 1; omega
      · rw [show a + d + (e - (a + d)) = e by omega]
        by_cases h6 : e - (a + d) = k0
        · rw [h6]
          rw [h6] at h5
          exact ltR_trans (h5 ▸ hk3) hlt
        · rw [hk2 _ (by omega), ← h5]
          exact hlt
theorem noLY_per {r : Bool} {w : Nat → Nat} {a p b : Nat} (hp : 1 ≤ p) (hb : a + p < b) (hper : ∀ x, a + p ≤ x → x < b → w x = w (x - p)) : ¬ LY r w a b := by
  intro h
  obtain ⟨k, h1, h2, h3⟩ := h (a + p) (by omega) hb
  rw [hper (a + p + k) (by omega) h1, show a + p + k - p = a + k by omega] at h3
  exact ltR_irr h3
theorem noLY_less {r : Bool} {w : Nat → Nat} {a p e b : Nat} (hp : 1 ≤ p) (he : a + p ≤ e) (heb : e < b) (hper : ∀ x, a + p ≤ x → x < e → w x = w (x - p)) (hlt : ltR r (w e) (w (e - p))) : ¬ LY r w a b := by
  intro h
  obtain ⟨k, h1, h2, h3⟩ := h (a + p) (by omega) (by omega)
  rcases Nat.lt_trichotomy (a + p + k) e with h4 | h4 | h4
  · rw [hper (a + p + k) (by omega) h4, show a + p + k - p = a + k by omega] at h3
    exact ltR_irr h3
  · rw [h4, show a + k = e - p by omega] at h3
    exact ltR_asym h3 hlt
  · have h5 := h2 (e - (a + p)) (by omega)
    rw [show a + (e - (a + p)) = e - p by omega, show a + p + (e - (a + p)) = e by omega] at h5
    exact ltR_irr (h5 ▸ hlt)
/-- f is the length of the longest Lyndon word that begins at a, up to b -/
def IsLong (r : Bool) (w : Nat → Nat) (a b f : Nat) : Prop := 1 ≤ f ∧ a + f ≤ b ∧ LY r w a (a + f) ∧ ∀ g, f < g → a + g ≤ b → ¬ LY r w a (a + g)
theorem IsLong.one {r : Bool} {w : Nat → Nat} {a b f g : Nat} (h : IsLong r w a b f) (h2 : IsLong r w a b g) : f = g := by
  rcases Nat.lt_trichotomy f g with h3 | h3 | h3
  · exact absurd h2.2.2.1 (h.2.2.2 g h3 h2.2.1)
  · exact h3
  · exact absurd h.2.2.1 (h2.2.2.2 f h3 h.2.1)
/-- the reversed order as a flag -/
def fl (r : Bool) : Int32 := match r with
  | true => nI 1
  | false => nI 0
def dR (r : Bool) (x : Int32) : Int32 := match r with
  | false => x
  | true => -x
theorem dR_gt {r : Bool} {x y : Nat} (hx : x ≤ 25) (hy : y ≤ 25) (h : ltR r x y) : 0 ≤ dR r (nI y - nI x) ∧ ¬ dR r (nI y - nI x) ≤ 0 := by
  cases r with
  | false => simp only [ltR] at h; exact ⟨(d_ge (by omega) (by omega)).mpr (by omega), fun hh => by have := (d_le (by omega) (by omega)).mp hh; omega⟩
  | true => simp only [ltR] at h; exact ⟨(dn_ge (by omega) (by omega)).mpr (by omega), fun hh => by have := (dn_le (by omega) (by omega)).mp hh; omega⟩
theorem dR_eq {r : Bool} {x : Nat} (hx : x ≤ 25) : 0 ≤ dR r (nI x - nI x) ∧ dR r (nI x - nI x) ≤ 0 := by
  cases r with
  | false => exact ⟨(d_ge (by omega) (by omega)).mpr (by omega), (d_le (by omega) (by omega)).mpr (by omega)⟩
  | true => exact ⟨(dn_ge (by omega) (by omega)).mpr (by omega), (dn_le (by omega) (by omega)).mpr (by omega)⟩
theorem dR_lt {r : Bool} {x y : Nat} (hx : x ≤ 25) (hy : y ≤ 25) (h : ltR r y x) : ¬ 0 ≤ dR r (nI y - nI x) := by
  cases r with
  | false => simp only [ltR] at h; exact fun hh => by have := (d_ge (by omega) (by omega)).mp hh; omega
  | true => simp only [ltR] at h; exact fun hh => by have := (dn_ge (by omega) (by omega)).mp hh; omega
theorem firstLength_H {N n : Nat} {Tn : Int32} {w : Nat → Nat} {Ta : Nat → Int32} (h : Rp n w Ta) (r : Bool) (rv : Int32) (hrv : rv = 0 ↔ r = false) {a b : Nat} (hb : b ≤ n) : ∀ d e p z, e + d = b → d < z → 1 ≤ p → a + p ≤ e → LY r w a (a + p) → (∀ x, a + p ≤ x → x < e → w x = w (x - p)) → ∃ f, IsLong r w a b f ∧ fX1_firstLength_H8 N Tn Ta z (nI a) (nI b) rv (nI p) (nI e) = some (nI f) := by
  have hn := h.le
  intro d
  induction d with
  | zero =>
    intro e p z he hz hp hpe hL hper
    obtain ⟨z, rfl⟩ : ∃ y, z = y + 1 := ⟨z - 1, by omega⟩
    refine ⟨p, ⟨hp, by omega, hL, fun g hg hg2 => noLY_per hp (by omega) (fun x h1 h2 => hper x h1 (by omega))⟩, ?_⟩
    show fX1_firstLength_B8 N Tn Ta _ _ _ _ _ _ = _
    unfold fX1_firstLength_B8
    simp (disch := omega) only [nI_leI, if_pos]
    rfl
  | succ d ih =>
    intro e p z he hz hp hpe hL hper
    obtain ⟨z, rfl⟩ : ∃ y, z = y + 1 := ⟨z - 1, by omega⟩
    have hstep : fX1_firstLength_H8 N Tn Ta (z + 1) (nI a) (nI b) rv (nI p) (nI e) = fX1_firstLength_J41 N Tn Ta (fX1_firstLength_H8 N Tn Ta z) (nI a) (nI b) rv (nI p) (nI e) (dR r (nI (w e) - nI (w (e - p)))) := by
      show fX1_firstLength_B8 N Tn Ta _ _ _ _ _ _ = _
      unfold fX1_firstLength_B8
      simp (disch := omega) only [nI_leI, if_neg, q_sub, letter_nI, bn_s]
      rw [h.at (show e < n by omega), h.at (show e - p < n by omega)]
      by_cases hr : r = false
      · rw [if_pos (hrv.mpr hr), hr]; rfl
      · have hr2 : r = true := by cases r <;> simp at hr ⊢
        rw [if_neg (fun hh => hr (hrv.mp hh)), hr2]; rfl
    rw [hstep]
    have b1 := h.b (show e < n by omega)
    have b2 := h.b (show e - p < n by omega)
    unfold fX1_firstLength_J41
    rcases ltR_tri r (w (e - p)) (w e) with hc | hc | hc
    · -- a greater letter
      have hL2 : LY r w a (e + 1) := LY_ext hp hL hpe hper hc
      have hn1 := dR_gt b2 b1 hc
      rw [if_pos hn1.1, if_neg hn1.2]
      unfold fX1_firstLength_J62
      simp (disch := omega) only [q_1, nI_add, q_sub]
      obtain ⟨f, hf1, hf2⟩ := ih (e + 1) (e + 1 - a) z (by omega) (by omega) (by omega) (by omega) (by rw [show a + (e + 1 - a) = e + 1 by omega]; exact hL2) (fun x h1 h2 => by omega)
      exact ⟨f, hf1, hf2⟩
    · have hn1 := dR_eq (r := r) b1
      rw [← hc] at b1
      rw [hc, if_pos hn1.1, if_pos hn1.2]
      unfold fX1_firstLength_J62
      simp (disch := omega) only [q_1, nI_add]
      obtain ⟨f, hf1, hf2⟩ := ih (e + 1) p z (by omega) (by omega) hp (by omega) hL (fun x h1 h2 => by
        by_cases hx : x = e
        · rw [hx]; exact hc.symm
        · exact hper x h1 (by omega))
      exact ⟨f, hf1, hf2⟩
    · rw [if_neg (dR_lt b2 b1 hc)]
      refine ⟨p, ⟨hp, by omega, hL, fun g hg hg2 => ?_⟩, rfl⟩
      by_cases hge : a + g ≤ e
      · exact noLY_per hp (by omega) (fun x h1 h2 => hper x h1 (by omega))
      · exact noLY_less hp hpe (by omega) hper hc
theorem firstLength_nI {N n : Nat} {Tn : Int32} {w : Nat → Nat} {Ta : Nat → Int32} (hN : 100 ≤ N) (h : Rp n w Ta) (r : Bool) (rv : Int32) (hrv : rv = 0 ↔ r = false) {a b : Nat} (hab : a < b) (hb : b ≤ n) : ∃ f, IsLong r w a b f ∧ fX1_firstLength N Tn Ta (nI a) (nI b) rv = some (nI f) := by
  have hn := h.le
  unfold fX1_firstLength
  simp (disch := omega) only [q_1, nI_add]
  exact firstLength_H h r rv hrv hb _ (a + 1) 1 N (show a + 1 + (b - (a + 1)) = b by omega) (by omega) (by omega) (by omega) (LY_one (by omega)) (fun x h1 h2 => by omega)
/-- the longest Lyndon word's length, as a function -/
noncomputable def ll (r : Bool) (w : Nat → Nat) (a b : Nat) : Nat := @dite _ (∃ f, IsLong r w a b f) (Classical.propDecidable _) (fun h => h.choose) (fun _ => 1)
theorem ll_eq {r : Bool} {w : Nat → Nat} {a b f : Nat} (h : IsLong r w a b f) : ll r w a b = f := by
  have hx : ∃ f, IsLong r w a b f := ⟨f, h⟩
  rw [ll, dif_pos hx]
  exact hx.choose_spec.one h
theorem firstLength_ll {N n : Nat} {Tn : Int32} {w : Nat → Nat} {Ta : Nat → Int32} (hN : 100 ≤ N) (h : Rp n w Ta) (r : Bool) (rv : Int32) (hrv : rv = 0 ↔ r = false) {a b : Nat} (hab : a < b) (hb : b ≤ n) : fX1_firstLength N Tn Ta (nI a) (nI b) rv = some (nI (ll r w a b)) ∧ IsLong r w a b (ll r w a b) := by
  obtain ⟨f, h1, h2⟩ := firstLength_nI (Tn := Tn) hN h r rv hrv hab hb
  rw [ll_eq h1]
  exact ⟨h2, h1⟩
theorem isLong_whole {r : Bool} {w : Nat → Nat} {a b f : Nat} (hab : a < b) (h : IsLong r w a b f) : f = b - a ↔ LY r w a b := by
  constructor
  · intro e
    have := h.2.2.1
    rw [e, show a + (b - a) = b by omega] at this
    exact this
  · intro hL
    rcases Nat.lt_or_ge f (b - a) with h1 | h1
    · exact absurd (by rw [show a + (b - a) = b by omega]; exact hL) (h.2.2.2 (b - a) h1 (by omega))
    · have := h.2.1; omega
theorem isOneFactor_nI {N n : Nat} {Tn : Int32} {w : Nat → Nat} {Ta : Nat → Int32} (hN : 100 ≤ N) (h : Rp n w Ta) {a b : Nat} (hab : a < b) (hb : b ≤ n) : fX1_isOneFactor N Tn Ta (nI a) (nI b) = some (pI (LY false w a b)) := by
  have hn := h.le
  obtain ⟨h1, h2⟩ := firstLength_ll (Tn := Tn) hN h false (0 : Int32) (by simp) hab hb
  unfold fX1_isOneFactor
  rw [h1, bn_s]
  have h3 := h2.2.1
  simp (disch := omega) only [q_sub]
  by_cases e : LY false w a b
  · rw [if_pos (by rw [(isLong_whole hab h2).mpr e]), pI_t e]; rfl
  · rw [if_neg (fun hh => e ((isLong_whole hab h2).mp ((nI_eq (by omega) (by omega)).mp hh))), pI_f e]; rfl

