/-! factors -/
noncomputable def fs (w : Nat → Nat) (n : Nat) : Nat → Nat
  | 0 => 0
  | k + 1 => fs w n k + ll false w (fs w n k) n
theorem ll_b {n : Nat} {w : Nat → Nat} {f : Nat → Int32} (h : Rp n w f) (r : Bool) {a b : Nat} (hab : a < b) (hb : b ≤ n) : 1 ≤ ll r w a b ∧ a + ll r w a b ≤ b := by
  obtain ⟨r', hr⟩ : ∃ x : Int32, x = 0 ↔ r = false := by
    cases r with
    | false => exact ⟨0, by simp⟩
    | true => exact ⟨1, by simp⟩
  have := (firstLength_ll (N := 100) (Tn := 0) (Nat.le_refl _) h r r' hr hab hb).2
  exact ⟨this.1, this.2.1⟩
theorem fs_F {n : Nat} {w : Nat → Nat} {f : Nat → Int32} (h : Rp n w f) : ∃ F, F ≤ n ∧ fs w n F = n ∧ ∀ k, k < F → fs w n k < n ∧ fs w n k < fs w n (k + 1) := by
  have key : ∀ d k, fs w n k + d = n → k ≤ fs w n k → (∀ j, j < k → fs w n j < n ∧ fs w n j < fs w n (j + 1)) → ∃ F, F ≤ n ∧ fs w n F = n ∧ ∀ k, k < F → fs w n k < n ∧ fs w n k < fs w n (k + 1) := by
    intro d
    induction d using Nat.strongRecOn with
    | _ d ih =>
      intro k h1 h2 h3
      by_cases h4 : fs w n k = n
      · exact ⟨k, by omega, h4, h3⟩
      · have h5 := ll_b h false (show fs w n k < n by omega) (Nat.le_refl n)
        have h6 : fs w n (k + 1) = fs w n k + ll false w (fs w n k) n := rfl
        refine ih (n - fs w n (k + 1)) (by omega) (k + 1) (by omega) (by omega) (fun j hj => ?_)
        by_cases e : j = k
        · rw [e]; omega
        · exact h3 j (by omega)
  exact key n 0 (by simp [fs]) (by simp [fs]) (fun j hj => by omega)
theorem fs_le {n F : Nat} {w : Nat → Nat} (h1 : fs w n F = n) (h2 : ∀ k, k < F → fs w n k < n ∧ fs w n k < fs w n (k + 1)) {k : Nat} (hk : k ≤ F) : fs w n k ≤ n := by
  by_cases e : k = F
  · rw [e, h1]; omega
  · have := h2 k (by omega); omega
theorem find_H {N n F : Nat} {w : Nat → Nat} {Ta : Nat → Int32} (hN : 100 ≤ N) (h : Rp n w Ta) (hF : F ≤ n) (h1 : fs w n F = n) (h2 : ∀ k, k < F → fs w n k < n ∧ fs w n k < fs w n (k + 1)) : ∀ d k z (f : Nat → Int32), k + d = F → d < z → (∀ j, j < k → f j = nI (fs w n j)) → ∃ g, fX1_find_H7 N (nI n) Ta z (nI k) f (nI (fs w n k)) = some (nI F, g) ∧ ∀ j, j ≤ F → g j = nI (fs w n j) := by
  have hn := h.le
  intro d
  induction d with
  | zero =>
    intro k z f hk hz hf
    obtain ⟨z, rfl⟩ : ∃ y, z = y + 1 := ⟨z - 1, by omega⟩
    have : k = F := by omega
    subst this
    refine ⟨upd f k (nI n), ?_, fun j hj => ?_⟩
    · show fX1_find_B7 N _ _ _ _ _ _ = _
      unfold fX1_find_B7 fX2_count
      rw [bn_s, h1, if_pos (by rw [nI_leI (by omega) (by omega)]; omega)]
      unfold fX1_find_J62 fX2_count
      rw [bn_s, put_nI (by omega) (by decide), bn_s]
    · by_cases e : j = k
      · rw [e, pk_us, h1]
      · rw [pk_un e]; exact hf j (by omega)
  | succ d ih =>
    intro k z f hk hz hf
    obtain ⟨z, rfl⟩ : ∃ y, z = y + 1 := ⟨z - 1, by omega⟩
    have h3 := h2 k (by omega)
    obtain ⟨g, g1, g2⟩ := ih (k + 1) z (upd f k (nI (fs w n k))) (by omega) (by omega) (fun j hj => by
      by_cases e : j = k
      · rw [e, pk_us]
      · rw [pk_un e]; exact hf j (by omega))
    refine ⟨g, ?_, g2⟩
    show fX1_find_B7 N _ _ _ _ _ _ = _
    unfold fX1_find_B7 fX2_count
    rw [bn_s, if_neg (by rw [nI_leI (by omega) (by omega)]; omega), if_neg (by rw [q_64, nI_leI (by omega) (by omega)]; omega), put_nI (by omega) (by decide), bn_s, bn_s, (firstLength_ll hN h false (0 : Int32) (by simp) h3.1 (Nat.le_refl n)).1, bn_s, nI_add, nI_1]
    exact g1
theorem factorMany_H {N n F : Nat} {Mh Mm : Int32} {w : Nat → Nat} {Mt : Nat → Int32} (hN : 100 ≤ N) (h : Rp n w Mt) (hF : F ≤ n) (h1 : fs w n F = n) (h2 : ∀ k, k < F → fs w n k < n ∧ fs w n k < fs w n (k + 1)) : ∀ d k z, k + d = F → d < z → fX9_factorMany_H4 N Mh (nI n) Mm Mt z (nI k) (nI (fs w n k)) = some (nI F) := by
  have hn := h.le
  intro d
  induction d with
  | zero =>
    intro k z hk hz
    obtain ⟨z, rfl⟩ : ∃ y, z = y + 1 := ⟨z - 1, by omega⟩
    have : k = F := by omega
    subst this
    show fX9_factorMany_B4 N _ _ _ _ _ _ _ = _
    unfold fX9_factorMany_B4
    rw [h1, if_pos (by rw [nI_leI (by omega) (by omega)]; omega)]
    rfl
  | succ d ih =>
    intro k z hk hz
    obtain ⟨z, rfl⟩ : ∃ y, z = y + 1 := ⟨z - 1, by omega⟩
    have h3 := h2 k (by omega)
    show fX9_factorMany_B4 N _ _ _ _ _ _ _ = _
    unfold fX9_factorMany_B4
    rw [if_neg (by rw [nI_leI (by omega) (by omega)]; omega), (longest_nI hN h false (0 : Int32) (by simp) h3.1).1, bn_s, nI_add, nI_1]
    exact ih (k + 1) z (by omega) (by omega)
theorem startOf_H {N n F i : Nat} {Mh Mm : Int32} {w : Nat → Nat} {Mt : Nat → Int32} (hN : 100 ≤ N) (h : Rp n w Mt) (hF : F ≤ n) (h1 : fs w n F = n) (h2 : ∀ k, k < F → fs w n k < n ∧ fs w n k < fs w n (k + 1)) (hi : i ≤ F) : ∀ d k z, k + d = i → d < z → fX9_startOf_H4 N Mh (nI n) Mm Mt z (nI i) (nI (fs w n k)) (nI k) = some (nI (fs w n i)) := by
  have hn := h.le
  intro d
  induction d with
  | zero =>
    intro k z hk hz
    obtain ⟨z, rfl⟩ : ∃ y, z = y + 1 := ⟨z - 1, by omega⟩
    have : k = i := by omega
    subst this
    have hj : fX9_startOf_J32 N Mh (nI n) Mm Mt (nI k) (nI (fs w n k)) (nI k) = some (nI (fs w n k)) := by
      unfold fX9_startOf_J32
      rw [if_pos rfl]; rfl
    show fX9_startOf_B4 N _ _ _ _ _ _ _ _ = _
    unfold fX9_startOf_B4
    rw [hj, if_pos (Int32.le_refl (nI k))]
    by_cases e : nI n ≤ nI (fs w n k)
    · rw [if_pos e]
    · rw [if_neg e]
  | succ d ih =>
    intro k z hk hz
    obtain ⟨z, rfl⟩ : ∃ y, z = y + 1 := ⟨z - 1, by omega⟩
    have h3 := h2 k (by omega)
    show fX9_startOf_B4 N _ _ _ _ _ _ _ _ = _
    unfold fX9_startOf_B4
    rw [if_neg (by rw [nI_leI (by omega) (by omega)]; omega), if_neg (by rw [nI_leI (by omega) (by omega)]; omega), (longest_nI hN h false (0 : Int32) (by simp) h3.1).1, bn_s, nI_add, nI_1]
    exact ih (k + 1) z (by omega) (by omega)
theorem find_nI {N n F : Nat} {w : Nat → Nat} {Ta : Nat → Int32} (hN : 100 ≤ N) (h : Rp n w Ta) (hF : F ≤ n) (h1 : fs w n F = n) (h2 : ∀ k, k < F → fs w n k < n ∧ fs w n k < fs w n (k + 1)) (Fn : Int32) (Fa : Nat → Int32) : ∃ g, fX1_find N (nI n) Ta Fn Fa = some (nI F, g) ∧ ∀ j, j ≤ F → g j = nI (fs w n j) := by
  have hn := h.le
  exact find_H hN h hF h1 h2 F 0 N Fa (by omega) (by omega) (fun j hj => by omega)
theorem factorMany_nI {N n F : Nat} {Mh Mm : Int32} {w : Nat → Nat} {Mt : Nat → Int32} (hN : 100 ≤ N) (h : Rp n w Mt) (hF : F ≤ n) (h1 : fs w n F = n) (h2 : ∀ k, k < F → fs w n k < n ∧ fs w n k < fs w n (k + 1)) : fX9_factorMany N Mh (nI n) Mm Mt = some (nI F) := by
  have hn := h.le
  exact factorMany_H hN h hF h1 h2 F 0 N (by omega) (by omega)
theorem startOf_nI {N n F i : Nat} {Mh Mm : Int32} {w : Nat → Nat} {Mt : Nat → Int32} (hN : 100 ≤ N) (h : Rp n w Mt) (hF : F ≤ n) (h1 : fs w n F = n) (h2 : ∀ k, k < F → fs w n k < n ∧ fs w n k < fs w n (k + 1)) (hi : i ≤ F) : fX9_startOf N Mh (nI n) Mm Mt (nI i) = some (nI (fs w n i)) := by
  have hn := h.le
  exact startOf_H hN h hF h1 h2 hi i 0 N (by omega) (by omega)
theorem ag_factors {N n : Nat} {Ta Mt : Nat → Int32} (hN : 100 ≤ N) (h : Two n Ta Mt) (Fn : Int32) (Fa : Nat → Int32) (Mh Mm : Int32) : ∃ r fn fa, fX8_factors N (nI n) Ta Fn Fa = some (r, fn, fa) ∧ fX9_factors N Mh (nI n) Mm Mt = some (r, (0 : Int32)) := by
  have hn := h.le
  obtain ⟨w, hT, hM⟩ := h.rp
  obtain ⟨F, hF, h1, h2⟩ := fs_F hT
  obtain ⟨g, g1, g2⟩ := find_nI hN hT hF h1 h2 Fn Fa
  unfold fX8_factors fX9_factors
  rw [g1, factorMany_nI hN hM hF h1 h2]
  exact ⟨_, _, _, rfl, rfl⟩
theorem ag_factorStart {N n : Nat} {Ta Mt : Nat → Int32} (hN : 100 ≤ N) (h : Two n Ta Mt) (Fn : Int32) (Fa : Nat → Int32) (Oa : Nat → Int64) (Mh Mm p1 : Int32) : ∃ c fn fa oa r, fL_factorStart N (nI n) Ta Fn Fa Oa p1 = some (c, fn, fa, oa) ∧ fX9_factorStart N Mh (nI n) Mm Mt p1 = some (r, c) ∧ (c = 0 → oa 0 = r.toInt64) := by
  have hn := h.le
  obtain ⟨w, hT, hM⟩ := h.rp
  obtain ⟨F, hF, h1, h2⟩ := fs_F hT
  obtain ⟨g, g1, g2⟩ := find_nI hN hT hF h1 h2 Fn Fa
  unfold fL_factorStart fX8_factorStart fX8_findFactor fX1_count fX9_factorStart
  rw [g1, bn_s, bn_s, factorMany_nI hN hM hF h1 h2, bn_s, q_1]
  rcases index_cases N p1 F (by omega) with ⟨i, rfl, hi, k1, k2⟩ | ⟨k1, k2⟩
  · rw [k1, k2, bx_r, bn_s, if_neg n1_0, bx_r]
    unfold fX1_start fX9_factorStart_J20
    rw [at_nI (by omega) (by decide), bn_s, bn_s, bx_r, goesB, if_neg i10, startOf_nI hN hM hF h1 h2 (by omega)]
    refine ⟨_, _, _, _, _, rfl, rfl, fun _ => (oa_1 _ _).trans ?_⟩
    show (g i).toInt64 = _
    rw [g2 i (by omega)]
  · rw [k1, k2, bn_s, if_pos n0_0]
    unfold fX9_factorStart_J20
    rw [← q_1, goesB1, if_pos rfl]
    exact ⟨_, _, _, _, _, rfl, rfl, fun hh => absurd hh (by decide)⟩
theorem ag_factorLength {N n : Nat} {Ta Mt : Nat → Int32} (hN : 100 ≤ N) (h : Two n Ta Mt) (Fn : Int32) (Fa : Nat → Int32) (Oa : Nat → Int64) (Mh Mm p1 : Int32) : ∃ c fn fa oa r, fL_factorLength N (nI n) Ta Fn Fa Oa p1 = some (c, fn, fa, oa) ∧ fX9_factorLength N Mh (nI n) Mm Mt p1 = some (r, c) ∧ (c = 0 → oa 0 = r.toInt64) := by
  have hn := h.le
  obtain ⟨w, hT, hM⟩ := h.rp
  obtain ⟨F, hF, h1, h2⟩ := fs_F hT
  obtain ⟨g, g1, g2⟩ := find_nI hN hT hF h1 h2 Fn Fa
  unfold fL_factorLength fX8_factorLength fX8_findFactor fX1_count fX9_factorLength
  rw [g1, bn_s, bn_s, factorMany_nI hN hM hF h1 h2, bn_s, q_1]
  rcases index_cases N p1 F (by omega) with ⟨i, rfl, hi, k1, k2⟩ | ⟨k1, k2⟩
  · rw [k1, k2, bx_r, bn_s, if_neg n1_0, bx_r]
    unfold fX1_start fX9_factorLength_J20
    have h3 := h2 i hi
    have h4 := fs_le h1 h2 (show i + 1 ≤ F by omega)
    rw [nI_add, at_nI (by omega) (by decide), bn_s, bn_s, at_nI (by omega) (by decide), bn_s, bn_s, bx_r, goesB, if_neg i10, startOf_nI hN hM hF h1 h2 (by omega), bn_s, (longest_nI hN hM false (0 : Int32) (by simp) h3.1).1]
    refine ⟨_, _, _, _, _, rfl, rfl, fun _ => (oa_1 _ _).trans ?_⟩
    show (g (i + 1) - g i).toInt64 = _
    rw [g2 i (by omega), g2 (i + 1) (by omega), q_sub (by omega)]
    congr 2
    show fs w n i + ll false w (fs w n i) n - fs w n i = _
    omega
  · rw [k1, k2, bn_s, if_pos n0_0]
    unfold fX9_factorLength_J20
    rw [← q_1, goesB1, if_pos rfl]
    exact ⟨_, _, _, _, _, rfl, rfl, fun hh => absurd hh (by decide)⟩
theorem overC_H {N n F p : Nat} {w : Nat → Nat} {Fa : Nat → Int32} (hF : F ≤ n) (hn : n ≤ 64) (h1 : fs w n F = n) (h2 : ∀ k, k < F → fs w n k < n ∧ fs w n k < fs w n (k + 1)) (hf : ∀ j, j ≤ F → Fa j = nI (fs w n j)) (hp : p < n) : ∀ d k z, k + d + 1 = F → d < z → fX1_numberOver_H2 N (nI F) Fa z (nI p) (nI k) = some (nI (lf (fun k => p < fs w n (k + 1)) k d)) := by
  intro d
  induction d with
  | zero =>
    intro k z hk hz
    obtain ⟨z, rfl⟩ : ∃ y, z = y + 1 := ⟨z - 1, by omega⟩
    show fX1_numberOver_B2 N _ _ _ _ _ = _
    unfold fX1_numberOver_B2
    rw [q_1, q_sub (by omega), if_pos (by rw [nI_leI (by omega) (by omega)]; omega), lf_0]
    rfl
  | succ d ih =>
    intro k z hk hz
    obtain ⟨z, rfl⟩ : ∃ y, z = y + 1 := ⟨z - 1, by omega⟩
    have h3 := fs_le h1 h2 (show k + 1 ≤ F by omega)
    show fX1_numberOver_B2 N _ _ _ _ _ = _
    unfold fX1_numberOver_B2
    rw [q_1, q_sub (by omega), if_neg (by rw [nI_leI (by omega) (by omega)]; omega), nI_add, at_nI (by omega) (by decide), bn_s, hf _ (by omega)]
    by_cases e : p < fs w n (k + 1)
    · rw [if_pos ((nI_ltI (by omega) (by omega)).mpr e), lf_t (P := fun k => p < fs w n (k + 1)) e]; rfl
    · rw [if_neg (by rw [nI_ltI (by omega) (by omega)]; exact e), lf_f (P := fun k => p < fs w n (k + 1)) e]
      exact ih (k + 1) z (by omega) (by omega)
theorem overM_H {N n F p : Nat} {Mh Mm : Int32} {w : Nat → Nat} {Mt : Nat → Int32} (hN : 100 ≤ N) (h : Rp n w Mt) (hF : F ≤ n) (h1 : fs w n F = n) (h2 : ∀ k, k < F → fs w n k < n ∧ fs w n k < fs w n (k + 1)) (hp : p < n) : ∀ d k z, k + d + 1 = F → d < z → fX9_factorOver_H24 N (nI n) Mm Mt z Mh (nI p) (nI k) = some (nI (lf (fun k => p < fs w n (k + 1)) k d), Mh) := by
  have hn := h.le
  intro d
  induction d with
  | zero =>
    intro k z hk hz
    obtain ⟨z, rfl⟩ : ∃ y, z = y + 1 := ⟨z - 1, by omega⟩
    show fX9_factorOver_B24 N _ _ _ _ _ _ _ = _
    unfold fX9_factorOver_B24
    rw [nI_1, startOf_nI hN h hF h1 h2 (by omega), bn_s, show k + 1 = F by omega, h1, if_pos ((nI_ltI (by omega) (by omega)).mpr hp), lf_0]
    rfl
  | succ d ih =>
    intro k z hk hz
    obtain ⟨z, rfl⟩ : ∃ y, z = y + 1 := ⟨z - 1, by omega⟩
    have h3 := fs_le h1 h2 (show k + 1 ≤ F by omega)
    show fX9_factorOver_B24 N _ _ _ _ _ _ _ = _
    unfold fX9_factorOver_B24
    rw [nI_1, startOf_nI hN h hF h1 h2 (by omega), bn_s]
    by_cases e : p < fs w n (k + 1)
    · rw [if_pos ((nI_ltI (by omega) (by omega)).mpr e), lf_t (P := fun k => p < fs w n (k + 1)) e]; rfl
    · rw [if_neg (by rw [nI_ltI (by omega) (by omega)]; exact e), lf_f (P := fun k => p < fs w n (k + 1)) e]
      exact ih (k + 1) z (by omega) (by omega)
theorem ag_factorOver {N n : Nat} {Ta Mt : Nat → Int32} (hN : 100 ≤ N) (h : Two n Ta Mt) (Fn : Int32) (Fa : Nat → Int32) (Oa : Nat → Int64) (Mh Mm p1 : Int32) : ∃ c fn fa oa r, fL_factorOver N (nI n) Ta Fn Fa Oa p1 = some (c, fn, fa, oa) ∧ fX9_factorOver N Mh (nI n) Mm Mt p1 = some (r, c) ∧ (c = 0 → oa 0 = r.toInt64) := by
  have hn := h.le
  obtain ⟨w, hT, hM⟩ := h.rp
  obtain ⟨F, hF, h1, h2⟩ := fs_F hT
  obtain ⟨g, g1, g2⟩ := find_nI hN hT hF h1 h2 Fn Fa
  unfold fL_factorOver fX8_factorOver fX9_factorOver fX2_count
  rw [bn_s]
  rcases place_cases N p1 n hn with ⟨a, rfl, ha, k1, k2⟩ | ⟨k1, k2⟩
  · have hF1 : 1 ≤ F := by
      rcases Nat.eq_zero_or_pos F with e | e
      · rw [e] at h1; simp [fs] at h1; omega
      · exact e
    rw [k1, k2, bx_r, bn_s, if_neg n1_0, g1, bn_s]
    unfold fX1_numberOver fX9_factorOver_J14
    have c1 := overC_H (N := N) hF hn h1 h2 g2 ha (F - 1) 0 N (by omega) (by omega)
    have c2 := overM_H (Mh := 0) (Mm := Mm) hN hM hF h1 h2 ha (F - 1) 0 N (by omega) (by omega)
    rw [← q_0] at c1 c2
    rw [c1, goesB, if_neg i10, c2]
    exact ⟨_, _, _, _, _, rfl, rfl, fun _ => oa_1 _ _⟩
  · rw [k1, k2, bn_s, if_pos n0_0]
    unfold fX9_factorOver_J14
    rw [goesB1, if_pos rfl]
    exact ⟨_, _, _, _, _, rfl, rfl, fun hh => absurd hh (by decide)⟩
