/-! factors -/
noncomputable def fs (w : Nat → Nat) (n : Nat) : Nat → Nat
  | 0 => 0
  | k + 1 => fs w n k + ll false w (fs w n k) n
theorem ll_b {n : Nat} {w : Nat → Nat} {f : Nat → Int32} (h : Rp n w f) (r : Bool) {a b : Nat} (hab : a < b) (hb : b ≤ n) : 1 ≤ ll r w a b ∧ a + ll r w a b ≤ b := by
  obtain ⟨r', hr⟩ : ∃ x : Int32, x = 0 ↔ r = false := by
    cases r with
    | false => exact ⟨0, by simp⟩
    | true => exact ⟨1, by simp⟩
  have := (firstLength_ll (N := 100) (Tn := 0) (Nat.le_refl _) h r r' hr hab hb).2
  exact ⟨this.1, this.2.1⟩
theorem fs_F {n : Nat} {w : Nat → Nat} {f : Nat → Int32} (h : Rp n w f) : ∃ F, F ≤ n ∧ fs w n F = n ∧ ∀ k, k < F → fs w n k < n ∧ fs w n k < fs w n (k + 1) := by
  have key : ∀ d k, fs w n k + d = n → k ≤ fs w n k → (∀ j, j < k → fs w n j < n ∧ fs w n j < fs w n (j + 1)) → ∃ F, F ≤ n ∧ fs w n F = n ∧ ∀ k, k < F → fs w n k < n ∧ fs w n k < fs w n (k + 1) := by
    intro d
    induction d using Nat.strongRecOn with
    | _ d ih =>
      intro k h1 h2 h3
      by_cases h4 : fs w n k = n
      · exact ⟨k, by omega, h4, h3⟩
      · have h5 := ll_b h false (show fs w n k < n by omega) (Nat.le_refl n)
        have h6 : fs w n (k + 1) = fs w n k + ll false w (fs w n k) n := rfl
        refine ih (n - fs w n (k + 1)) (by omega) (k + 1) (by omega) (by omega) (fun j hj => ?_)
        by_cases e : j = k
        · rw [e]; omega
        · exact h3 j (by omega)
  exact key n 0 (by simp [fs]) (by simp [fs]) (fun j hj => by omega)
theorem fs_le {n F : Nat} {w : Nat → Nat} (h1 : fs w n F = n) (h2 : ∀ k, k < F → fs w n k < n ∧ fs w n k < fs w n (k + 1)) {k : Nat} (hk : k ≤ F) : fs w n k ≤ n := by
  by_cases e : k = F
  · rw [e, h1]; omega
  · have := h2 k (by omega); omega
theorem find_H {N n F : Nat} {w : Nat → Nat} {Ta : Nat → Int32} (hN : 100 ≤ N) (h : Rp n w Ta) (hF : F ≤ n) (h1 : fs w n F = n) (h2 : ∀ k, k < F → fs w n k < n ∧ fs w n k < fs w n (k + 1)) : ∀ d k z (f : Nat → Int32), k + d = F → d < z → (∀ j, j < k → f j = nI (fs w n j)) → ∃ g, fX1_find_H7 N (nI n) Ta z (nI k) f (nI (fs w n k)) = some (nI F, g) ∧ ∀ j, j ≤ F → g j = nI (fs w n j) := by
  have hn := h.le
  intro d
  induction d with
  | zero =>
    intro k z f hk hz hf
    obtain ⟨z, rfl⟩ : ∃ y, z = y + 1 := ⟨z - 1, by omega⟩
    have : k = F := by omega
    subst this
    refine ⟨upd f k (nI n), ?_, fun j hj => ?_⟩
    · show fX1_find_B7 N _ _ _ _ _ _ = _
      unfold fX1_find_B7 fX2_count
      rw [bn_s, h1, if_pos (by rw [nI_leI (by omega) (by omega)]; omega)]
      unfold fX1_find_J62 fX2_count
      rw [bn_s, put_nI (by omega) (by decide), bn_s]
    · by_cases e : j = k
      · rw [e, pk_us, h1]
      · rw [pk_un e]; exact hf j (by omega)
  | succ d ih =>
    intro k z f hk hz hf
    obtain ⟨z, rfl⟩ : ∃ y, z = y + 1 := ⟨z - 1, by omega⟩
    have h3 := h2 k (by omega)
    obtain ⟨g, g1, g2⟩ := ih (k + 1) z (upd f k (nI (fs w n k))) (by omega) (by omega) (fun j hj => by
      by_cases e : j = k
      · rw [e, pk_us]
      · rw [pk_un e]; exact hf j (by omega))
    refine ⟨g, ?_, g2⟩
    show fX1_find_B7 N _ _ _ _ _ _ = _
    unfold fX1_find_B7 fX2_count
    rw [bn_s, if_neg (by rw [nI_leI (by omega) (by omega)]; omega), if_neg (by rw [q_64, nI_leI (by omega) (by omega)]; omega), put_nI (by omega) (by decide), bn_s, bn_s, (firstLength_ll hN h false (0 : Int32) (by simp) h3.1 (Nat.le_refl n)).1, bn_s, nI_add, nI_1]
    exact g1
theorem find_nI {N n F : Nat} {w : Nat → Nat} {Ta : Nat → Int32} (hN : 100 ≤ N) (h : Rp n w Ta) (hF : F ≤ n) (h1 : fs w n F = n) (h2 : ∀ k, k < F → fs w n k < n ∧ fs w n k < fs w n (k + 1)) (Fn : Int32) (Fa : Nat → Int32) : ∃ g, fX1_find N (nI n) Ta Fn Fa = some (nI F, g) ∧ ∀ j, j ≤ F → g j = nI (fs w n j) := by
  have hn := h.le
  exact find_H hN h hF h1 h2 F 0 N Fa (by omega) (by omega) (fun j hj => by omega)
theorem overC_H {N n F p : Nat} {w : Nat → Nat} {Fa : Nat → Int32} (hF : F ≤ n) (hn : n ≤ 64) (h1 : fs w n F = n) (h2 : ∀ k, k < F → fs w n k < n ∧ fs w n k < fs w n (k + 1)) (hf : ∀ j, j ≤ F → Fa j = nI (fs w n j)) (hp : p < n) : ∀ d k z, k + d + 1 = F → d < z → fX1_numberOver_H2 N (nI F) Fa z (nI p) (nI k) = some (nI (lf (fun k => p < fs w n (k + 1)) k d)) := by
  intro d
  induction d with
  | zero =>
    intro k z hk hz
    obtain ⟨z, rfl⟩ : ∃ y, z = y + 1 := ⟨z - 1, by omega⟩
    show fX1_numberOver_B2 N _ _ _ _ _ = _
    unfold fX1_numberOver_B2
    rw [q_1, q_sub (by omega), if_pos (by rw [nI_leI (by omega) (by omega)]; omega), lf_0]
    rfl
  | succ d ih =>
    intro k z hk hz
    obtain ⟨z, rfl⟩ : ∃ y, z = y + 1 := ⟨z - 1, by omega⟩
    have h3 := fs_le h1 h2 (show k + 1 ≤ F by omega)
    show fX1_numberOver_B2 N _ _ _ _ _ = _
    unfold fX1_numberOver_B2
    rw [q_1, q_sub (by omega), if_neg (by rw [nI_leI (by omega) (by omega)]; omega), nI_add, at_nI (by omega) (by decide), bn_s, hf _ (by omega)]
    by_cases e : p < fs w n (k + 1)
    · rw [if_pos ((nI_ltI (by omega) (by omega)).mpr e), lf_t (P := fun k => p < fs w n (k + 1)) e]; rfl
    · rw [if_neg (by rw [nI_ltI (by omega) (by omega)]; exact e), lf_f (P := fun k => p < fs w n (k + 1)) e]
      exact ih (k + 1) z (by omega) (by omega)
