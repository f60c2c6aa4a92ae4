/-! p47: the law, all its rounds -/
abbrev KTy : Type := Int32 → (Nat → Int32) → Int32 → (Nat → Int32) → (Nat → Int32) → Int32 → (Nat → Int32) → (Nat → Int32) → (Nat → Int32) → (Nat → Int32) → Int32 → Int32 → Int32 → Int32 → Int32 → (Nat → Int32) → Int32 → (Nat → Int32) → (Nat → Int32) → Int32 → (Nat → Int32) → (Nat → Int32) → (Nat → Int32) → Int32 → Int32 → Int32 → Int32 → Int32 → Option Int32
def GK (k : Nat) (K : KTy) : Prop := ∀ (n : Nat) (Ta QTa : Nat → Int32), Two n Ta QTa → ∀ (Fn : Int32) (Fa : (Nat → Int32)) (Ba : (Nat → Int32)) (Rn : Int32) (Ra : (Nat → Int32)) (Rb : (Nat → Int32)) (Rd : (Nat → Int32)) (Ua : (Nat → Int32)) (Wg : Int32) (Wz : Int32) (Ww : Int32) (Wr : Int32) (QFn : Int32) (QFa : (Nat → Int32)) (QBa : (Nat → Int32)) (QRn : Int32) (QRa : (Nat → Int32)) (QRb : (Nat → Int32)) (QRd : (Nat → Int32)) (QWg : Int32) (QWz : Int32) (QWw : Int32) (QWr : Int32), K (nI n) Ta Fn Fa Ba Rn Ra Rb Rd Ua Wg Wz Ww Wr (nI n) QTa QFn QFa QBa QRn QRa QRb QRd QWg QWz QWw QWr (nI k) = some 1
theorem lp_J188 (L : Nat) (xs QUa : Nat → Int32) {K : KTy} {k : Nat} (hK : GK (k + 1) K) {n : Nat} {Ta QTa : Nat → Int32} (h : Two n Ta QTa) (Fn : Int32) (Fa : (Nat → Int32)) (Ba : (Nat → Int32)) (Rn : Int32) (Ra : (Nat → Int32)) (Rb : (Nat → Int32)) (Rd : (Nat → Int32)) (Ua : (Nat → Int32)) (Wg : Int32) (Wz : Int32) (Ww : Int32) (Wr : Int32) (QFn : Int32) (QFa : (Nat → Int32)) (QBa : (Nat → Int32)) (QRn : Int32) (QRa : (Nat → Int32)) (QRb : (Nat → Int32)) (QRd : (Nat → Int32)) (QWg : Int32) (QWz : Int32) (QWw : Int32) (QWr : Int32) : fL_law_J188 100000 L xs QUa K (nI n) Ta Fn Fa Ba Rn Ra Rb Rd Ua Wg Wz Ww Wr (nI n) QTa QFn QFa QBa QRn QRa QRb QRd QWg QWz QWw QWr (nI k) = some 1 := by
  show K (nI n) Ta Fn Fa Ba Rn Ra Rb Rd Ua Wg Wz Ww Wr (nI n) QTa QFn QFa QBa QRn QRa QRb QRd QWg QWz QWw QWr (nI k + 1) = some 1
  rw [nI_1]
  exact hK n Ta QTa h _ _ _ _ _ _ _ _ _ _ _ _ _ _ _ _ _ _ _ _ _ _ _
theorem lp_J164 (L : Nat) (xs QUa : Nat → Int32) {K : KTy} {k : Nat} (hK : GK (k + 1) K) {n : Nat} {Ta QTa : Nat → Int32} (h : Two n Ta QTa) (Fn : Int32) (Fa : (Nat → Int32)) (Ba : (Nat → Int32)) (Rn : Int32) (Ra : (Nat → Int32)) (Rb : (Nat → Int32)) (Rd : (Nat → Int32)) (Ua : (Nat → Int32)) (Wg : Int32) (Wz : Int32) (Ww : Int32) (Wr : Int32) (QFn : Int32) (QFa : (Nat → Int32)) (QBa : (Nat → Int32)) (QRn : Int32) (QRa : (Nat → Int32)) (QRb : (Nat → Int32)) (QRd : (Nat → Int32)) (QWg : Int32) (QWz : Int32) (QWw : Int32) (QWr : Int32) : fL_law_J164 100000 L xs QUa K (nI n) Ta Fn Fa Ba Rn Ra Rb Rd Ua Wg Wz Ww Wr (nI n) QTa QFn QFa QBa QRn QRa QRb QRd QWg QWz QWw QWr (nI k) = some 1 := by
  have hN : 100 ≤ 100000 := by decide
  unfold fL_law_J164
  rw [show nz (6 : Int32) = true by decide, gd_t]
  by_cases c : (nI k - nI k / (6 : Int32) * (6 : Int32)) = (5 : Int32)
  · rw [if_pos c]
    obtain ⟨fn, fa, ua, e1⟩ := sufSo_nI (N := 100000) hN h Fn Fa Ua
    rw [e1, bn_s]
    dsimp only
    rw [if_neg i10']
    obtain ⟨ba, rn, a, b, d, e2⟩ := runSo_nI (N := 100000) hN h Ba Rn Ra Rb Rd
    rw [e2, bn_s]
    dsimp only
    rw [if_neg i10']
    exact lp_J188 L xs QUa hK h _ _ _ _ _ _ _ _ _ _ _ _ _ _ _ _ _ _ _ _ _ _ _
  · rw [if_neg c]
    exact lp_J188 L xs QUa hK h _ _ _ _ _ _ _ _ _ _ _ _ _ _ _ _ _ _ _ _ _ _ _
theorem lp_J130 (L : Nat) (xs QUa : Nat → Int32) {K : KTy} {k : Nat} (hK : GK (k + 1) K) {n : Nat} {Ta QTa : Nat → Int32} (h : Two n Ta QTa) (Fn : Int32) (Fa : (Nat → Int32)) (Ba : (Nat → Int32)) (Rn : Int32) (Ra : (Nat → Int32)) (Rb : (Nat → Int32)) (Rd : (Nat → Int32)) (Ua : (Nat → Int32)) (Wg : Int32) (Wz : Int32) (Ww : Int32) (Wr : Int32) (QFn : Int32) (QFa : (Nat → Int32)) (QBa : (Nat → Int32)) (QRn : Int32) (QRa : (Nat → Int32)) (QRb : (Nat → Int32)) (QRd : (Nat → Int32)) (QWg : Int32) (QWz : Int32) (QWw : Int32) (QWr : Int32) {a b : Nat} (hab : n = 0 ∨ (a < b ∧ b ≤ n)) : fL_law_J130 100000 L xs QUa K (nI n) Ta Fn Fa Ba Rn Ra Rb Rd Ua Wg Wz Ww Wr (nI n) QTa QFn QFa QBa QRn QRa QRb QRd QWg QWz QWw QWr (nI k) (nI a) (nI b) = some 1 := by
  have hn := h.le
  have hN : 100 ≤ 100000 := by decide
  unfold fL_law_J130
  rw [len_nI, bn_s]
  by_cases c : n = 0
  · rw [if_pos (by rw [c]; exact Int32.le_refl _)]
    exact lp_J164 L xs QUa hK h _ _ _ _ _ _ _ _ _ _ _ _ _ _ _ _ _ _ _ _ _ _ _
  · obtain ⟨w, hf, hg⟩ := h.rp
    rcases hab with hab | ⟨hab, hb⟩
    · exact absurd hab c
    · obtain ⟨b1, e1⟩ := part_nI (N := 100000) hN hf hab hb Ba
      obtain ⟨b2, e2⟩ := part_nI (N := 100000) hN hg (show 0 < n by omega) (Nat.le_refl n) QBa
      rw [← q_0] at e2
      rw [if_neg (by rw [q_0, nI_leI (by omega) (by omega)]; omega), e1, bn_s]
      dsimp only
      rw [if_neg i10', bn_s, e2, bn_s]
      dsimp only
      rw [if_neg i10']
      exact lp_J164 L xs QUa hK h _ _ _ _ _ _ _ _ _ _ _ _ _ _ _ _ _ _ _ _ _ _ _
theorem lp_J97 (L : Nat) (xs QUa : Nat → Int32) {K : KTy} {k : Nat} (hK : GK (k + 1) K) {n : Nat} {Ta QTa : Nat → Int32} (h : Two n Ta QTa) (Fn : Int32) (Fa : (Nat → Int32)) (Ba : (Nat → Int32)) (Rn : Int32) (Ra : (Nat → Int32)) (Rb : (Nat → Int32)) (Rd : (Nat → Int32)) (Ua : (Nat → Int32)) (Wg : Int32) (Wz : Int32) (Ww : Int32) (Wr : Int32) (QFn : Int32) (QFa : (Nat → Int32)) (QBa : (Nat → Int32)) (QRn : Int32) (QRa : (Nat → Int32)) (QRb : (Nat → Int32)) (QRd : (Nat → Int32)) (QWg : Int32) (QWz : Int32) (QWw : Int32) (QWr : Int32) (x4 : Int32) {a : Nat} (ha : n = 0 ∨ a < n) : fL_law_J97 100000 L xs QUa K (nI n) Ta Fn Fa Ba Rn Ra Rb Rd Ua Wg Wz Ww Wr (nI n) QTa QFn QFa QBa QRn QRa QRb QRd QWg QWz QWw QWr (nI k) x4 (nI a) = some 1 := by
  have hn := h.le
  unfold fL_law_J97
  rw [len_nI, bn_s]
  by_cases c : n = 0
  · rw [if_pos (by rw [c]; rfl)]
    exact lp_J130 L xs QUa hK h _ _ _ _ _ _ _ _ _ _ _ _ _ _ _ _ _ _ _ _ _ _ _ (b := 0) (Or.inl c)
  · obtain ⟨r, hr, e⟩ := low_nI (N := 100000) (n := n - a) (x4 >>> ((11 : Int32) &&& 31)) (by omega) (by omega)
    rw [if_neg (by rw [nI_z (by omega)]; exact c), bn_s, q_sub (by omega), e, bn_s, nI_1, nI_add]
    exact lp_J130 L xs QUa hK h _ _ _ _ _ _ _ _ _ _ _ _ _ _ _ _ _ _ _ _ _ _ _ (Or.inr ⟨by omega, by omega⟩)
theorem lp_J57 (L : Nat) (xs QUa : Nat → Int32) {K : KTy} {k : Nat} (hK : GK (k + 1) K) {n : Nat} {Ta QTa : Nat → Int32} (h : Two n Ta QTa) (Fn : Int32) (Fa : (Nat → Int32)) (Ba : (Nat → Int32)) (Rn : Int32) (Ra : (Nat → Int32)) (Rb : (Nat → Int32)) (Rd : (Nat → Int32)) (Ua : (Nat → Int32)) (Wg : Int32) (Wz : Int32) (Ww : Int32) (Wr : Int32) (QFn : Int32) (QFa : (Nat → Int32)) (QBa : (Nat → Int32)) (QRn : Int32) (QRa : (Nat → Int32)) (QRb : (Nat → Int32)) (QRd : (Nat → Int32)) (QWg : Int32) (QWz : Int32) (QWw : Int32) (QWr : Int32) (x4 : Int32) : fL_law_J57 100000 L xs QUa K (nI n) Ta Fn Fa Ba Rn Ra Rb Rd Ua Wg Wz Ww Wr (nI n) QTa QFn QFa QBa QRn QRa QRb QRd QWg QWz QWw QWr (nI k) x4 = some 1 := by
  have hn := h.le
  have hN : 100 ≤ 100000 := by decide
  obtain ⟨a1, a2, a3, a4, a5, a6, a7, a8, a9, a10, a11, a12, e1⟩ := alike_nI (N := 100000) hN h Fn Fa Rn Ra Rb Rd QFn QFa QRn QRa QRb QRd
  obtain ⟨b1, b2, e2⟩ := facSo_nI (N := 100000) hN h a1 a2
  unfold fL_law_J57
  rw [e1, bn_s]
  dsimp only
  rw [if_neg i10', e2, bn_s]
  dsimp only
  rw [if_neg i10', len_nI, bn_s]
  by_cases c : n = 0
  · rw [if_pos (by rw [c]; rfl)]
    exact lp_J97 L xs QUa hK h _ _ _ _ _ _ _ _ _ _ _ _ _ _ _ _ _ _ _ _ _ _ _ x4 (a := 0) (Or.inl c)
  · obtain ⟨r, hr, e⟩ := low_nI (N := 100000) (n := n) (x4 >>> ((6 : Int32) &&& 31)) (by omega) (by omega)
    rw [if_neg (by rw [nI_z (by omega)]; exact c), bn_s, e, bn_s]
    exact lp_J97 L xs QUa hK h _ _ _ _ _ _ _ _ _ _ _ _ _ _ _ _ _ _ _ _ _ _ _ x4 (Or.inr hr)
theorem cell_nI (L : Nat) (hL : L ≤ 260) (xs : Nat → Int32) (k : Nat) (hk : k < 2 ^ 31) : ∃ v, fL_cell 100000 L xs (nI k) = some v := by
  unfold fL_cell
  by_cases c : Int32.ofNat L ≤ nI k
  · rw [if_pos c]
    exact ⟨_, rfl⟩
  · have c2 : ¬ L ≤ k := fun hh => c ((nI_leI (by omega) hk).mpr hh)
    rw [if_neg c, q_inb (by omega) (by omega), gd_t]
    exact ⟨_, rfl⟩
theorem lp_B18 {L : Nat} (hL : L ≤ 260) (xs QUa : Nat → Int32) {K : KTy} {k : Nat} (hK : GK (k + 1) K) {n : Nat} {Ta QTa : Nat → Int32} (h : Two n Ta QTa) (Fn : Int32) (Fa : (Nat → Int32)) (Ba : (Nat → Int32)) (Rn : Int32) (Ra : (Nat → Int32)) (Rb : (Nat → Int32)) (Rd : (Nat → Int32)) (Ua : (Nat → Int32)) (Wg : Int32) (Wz : Int32) (Ww : Int32) (Wr : Int32) (QFn : Int32) (QFa : (Nat → Int32)) (QBa : (Nat → Int32)) (QRn : Int32) (QRa : (Nat → Int32)) (QRb : (Nat → Int32)) (QRd : (Nat → Int32)) (QWg : Int32) (QWz : Int32) (QWw : Int32) (QWr : Int32) (hk : k < 48) : fL_law_B18 100000 L xs QUa K (nI n) Ta Fn Fa Ba Rn Ra Rb Rd Ua Wg Wz Ww Wr (nI n) QTa QFn QFa QBa QRn QRa QRb QRd QWg QWz QWw QWr (nI k) = some 1 := by
  have hn := h.le
  obtain ⟨v, e0⟩ := cell_nI L hL xs k (by omega)
  obtain ⟨r, n', f', g', a, b, c, d, a', b', c', d', e1, e2, h3, h4⟩ := act_two (fun L m h1 h2 h3 h4 => walkOk h1 h2 h3 h4) h Wg Wz Ww Wr QWg QWz QWw QWr v
  unfold fL_law_B18
  rw [if_neg (by rw [show (48 : Int32) = nI 48 from rfl, nI_leI (by omega) (by omega)]; omega), e0, bn_s, e1, bn_s]
  dsimp only
  by_cases q : r = RF
  · obtain ⟨q1, q2⟩ := h4 q
    rw [if_pos q, q1, q2]
    exact lp_J57 L xs QUa hK h _ _ _ _ _ _ _ _ _ _ _ _ _ _ _ _ _ _ _ _ _ _ _ v
  · rw [if_neg q, e2, bn_s]
    dsimp only
    rw [if_pos rfl]
    exact lp_J57 L xs QUa hK h3 _ _ _ _ _ _ _ _ _ _ _ _ _ _ _ _ _ _ _ _ _ _ _ v
theorem lp_H18 {L : Nat} (hL : L ≤ 260) (xs QUa : Nat → Int32) : ∀ d k z, k + d = 48 → d < z → GK k (fL_law_H18 100000 L xs QUa z) := by
  intro d
  induction d with
  | zero =>
    intro k z hk hz n Ta QTa h Fn Fa Ba Rn Ra Rb Rd Ua Wg Wz Ww Wr QFn QFa QBa QRn QRa QRb QRd QWg QWz QWw QWr
    obtain ⟨z, rfl⟩ : ∃ y, z = y + 1 := ⟨z - 1, by omega⟩
    show fL_law_B18 100000 L xs QUa (fL_law_H18 100000 L xs QUa z) (nI n) Ta Fn Fa Ba Rn Ra Rb Rd Ua Wg Wz Ww Wr (nI n) QTa QFn QFa QBa QRn QRa QRb QRd QWg QWz QWw QWr (nI k) = some 1
    unfold fL_law_B18
    rw [if_pos (by rw [show (48 : Int32) = nI 48 from rfl, nI_leI (by omega) (by omega)]; omega)]
    unfold fL_law_J194
    rw [gB1]
  | succ d ih =>
    intro k z hk hz n Ta QTa h Fn Fa Ba Rn Ra Rb Rd Ua Wg Wz Ww Wr QFn QFa QBa QRn QRa QRb QRd QWg QWz QWw QWr
    obtain ⟨z, rfl⟩ : ∃ y, z = y + 1 := ⟨z - 1, by omega⟩
    show fL_law_B18 100000 L xs QUa (fL_law_H18 100000 L xs QUa z) (nI n) Ta Fn Fa Ba Rn Ra Rb Rd Ua Wg Wz Ww Wr (nI n) QTa QFn QFa QBa QRn QRa QRb QRd QWg QWz QWw QWr (nI k) = some 1
    exact lp_B18 hL xs QUa (ih (k + 1) z (by omega) (by omega)) h _ _ _ _ _ _ _ _ _ _ _ _ _ _ _ _ _ _ _ _ _ _ _ (by omega)
theorem law_pure (L : Nat) (hL : L ≤ 260) (xs : Nat → Int32) : fL_law_H18 100000 L xs (fun _ => 0) 60 0 (fun _ => 0) 0 (fun _ => 0) (fun _ => 0) 0 (fun _ => 0) (fun _ => 0) (fun _ => 0) (fun _ => 0) 0 1 0 1 0 (fun _ => 0) 0 (fun _ => 0) (fun _ => 0) 0 (fun _ => 0) (fun _ => 0) (fun _ => 0) 0 1 0 1 0 = some 1 := by
  exact lp_H18 hL xs (fun _ => 0) 48 0 60 (by omega) (by omega) 0 (fun _ => 0) (fun _ => 0) ⟨by omega, fun j hj => by omega⟩ _ _ _ _ _ _ _ _ _ _ _ _ _ _ _ _ _ _ _ _ _ _ _
