/-! all runs, listed in their order -/
noncomputable def rAt (w : Nat → Nat) (n s : Nat) : Nat → Nat → List (Nat × Nat)
  | 0, _ => []
  | d + 1, p => (@ite _ (isR w n s p) (Classical.propDecidable _) [(s, p)] []) ++ rAt w n s d (p + 1)
noncomputable def rFrom (w : Nat → Nat) (n : Nat) : Nat → Nat → List (Nat × Nat)
  | 0, _ => []
  | d + 1, s => rAt w n s ((n - s) / 2) 1 ++ rFrom w n d (s + 1)
noncomputable def RuL (w : Nat → Nat) (n : Nat) : List (Nat × Nat) := rFrom w n n 0
theorem rAt_t {w : Nat → Nat} {n s d p : Nat} (h : isR w n s p) : rAt w n s (d + 1) p = [(s, p)] ++ rAt w n s d (p + 1) := by rw [rAt, if_pos h]
theorem rAt_f {w : Nat → Nat} {n s d p : Nat} (h : ¬ isR w n s p) : rAt w n s (d + 1) p = rAt w n s d (p + 1) := by rw [rAt, if_neg h]; rfl
theorem rAt_mem {w : Nat → Nat} {n s : Nat} : ∀ d p x, x ∈ rAt w n s d p → x.1 = s ∧ p ≤ x.2 ∧ isR w n x.1 x.2 := by
  intro d
  induction d with
  | zero => intro p x hx; exact absurd hx (by simp [rAt])
  | succ d ih =>
    intro p x hx
    by_cases e : isR w n s p
    · rw [rAt_t e, List.mem_append] at hx
      rcases hx with hx | hx
      · rw [List.mem_singleton] at hx
        subst hx
        exact ⟨rfl, Nat.le_refl _, e⟩
      · obtain ⟨h1, h2, h3⟩ := ih _ _ hx
        exact ⟨h1, by omega, h3⟩
    · rw [rAt_f e] at hx
      obtain ⟨h1, h2, h3⟩ := ih _ _ hx
      exact ⟨h1, by omega, h3⟩
theorem rFrom_mem {w : Nat → Nat} {n : Nat} : ∀ d s x, x ∈ rFrom w n d s → s ≤ x.1 ∧ isR w n x.1 x.2 := by
  intro d
  induction d with
  | zero => intro s x hx; exact absurd hx (by simp [rFrom])
  | succ d ih =>
    intro s x hx
    rw [rFrom, List.mem_append] at hx
    rcases hx with hx | hx
    · obtain ⟨h1, h2, h3⟩ := rAt_mem _ _ _ hx
      exact ⟨by omega, h3⟩
    · obtain ⟨h1, h2⟩ := ih _ _ hx
      exact ⟨by omega, h2⟩
theorem rAt_nodup {w : Nat → Nat} {n s : Nat} : ∀ d p, List.Pairwise (fun x y => x ≠ y) (rAt w n s d p) := by
  intro d
  induction d with
  | zero => intro p; exact List.Pairwise.nil
  | succ d ih =>
    intro p
    by_cases e : isR w n s p
    · rw [rAt_t e]
      refine List.Pairwise.cons (fun x hx => ?_) (ih (p + 1))
      have := (rAt_mem _ _ _ hx).2.1
      intro hh
      rw [← hh] at this
      simp only at this
      omega
    · rw [rAt_f e]; exact ih (p + 1)
theorem rFrom_nodup {w : Nat → Nat} {n : Nat} : ∀ d s, List.Pairwise (fun x y => x ≠ y) (rFrom w n d s) := by
  intro d
  induction d with
  | zero => intro s; exact List.Pairwise.nil
  | succ d ih =>
    intro s
    rw [rFrom, List.pairwise_append]
    refine ⟨rAt_nodup _ _, ih _, fun x hx y hy hh => ?_⟩
    have h1 := (rAt_mem _ _ _ hx).1
    have h2 := (rFrom_mem _ _ _ hy).1
    rw [hh] at h1
    omega
theorem RuL_R {w : Nat → Nat} {n k : Nat} (h : k < (RuL w n).length) : isR w n (RuL w n)[k].1 (RuL w n)[k].2 := (rFrom_mem _ _ _ (List.getElem_mem h)).2
theorem RuL_len {w : Nat → Nat} {n : Nat} : (RuL w n).length ≤ n - 1 := by
  refine inj_le _ _ (fun k => if h : k < (RuL w n).length then rB w n (RuL w n)[k].1 (RuL w n)[k].2 - 1 else 0) (fun i hi => ?_) (fun i j hij hj => ?_)
  · have := rB_lt (RuL_R hi)
    show (if h : i < (RuL w n).length then rB w n (RuL w n)[i].1 (RuL w n)[i].2 - 1 else 0) < n - 1
    rw [dif_pos hi]
    omega
  · have h1 := rB_lt (RuL_R hj)
    have h2 := rB_lt (RuL_R (w := w) (n := n) (k := i) (by omega))
    show (if h : i < (RuL w n).length then rB w n (RuL w n)[i].1 (RuL w n)[i].2 - 1 else 0) ≠ (if h : j < (RuL w n).length then rB w n (RuL w n)[j].1 (RuL w n)[j].2 - 1 else 0)
    rw [dif_pos hj, dif_pos (show i < (RuL w n).length by omega)]
    intro e
    have hne := (List.pairwise_iff_getElem.mp (rFrom_nodup (w := w) (n := n) n 0)) i j (by omega : i < (RuL w n).length) hj hij
    have hone := run_one (RuL_R (w := w) (n := n) (k := i) (by omega)) (RuL_R hj) (by omega)
    exact hne (Prod.ext hone.1 hone.2)
/-- rows that hold a list of runs -/
def Hold (w : Nat → Nat) (n : Nat) (l : List (Nat × Nat)) (A B D : Nat → Int32) : Prop := ∀ k (h : k < l.length), A k = nI l[k].1 ∧ B k = nI (rE w n l[k].1 l[k].2) ∧ D k = nI l[k].2
theorem Hold_add {w : Nat → Nat} {n s p : Nat} {l : List (Nat × Nat)} {A B D : Nat → Int32} (h : Hold w n l A B D) : Hold w n (l ++ [(s, p)]) (upd A l.length (nI s)) (upd B l.length (nI (rE w n s p))) (upd D l.length (nI p)) := by
  intro k hk
  rw [List.length_append, List.length_singleton] at hk
  by_cases e : k = l.length
  · subst e
    rw [pk_us, pk_us, pk_us, List.getElem_append_right (Nat.le_refl _)]
    simp
  · rw [pk_un e, pk_un e, pk_un e, List.getElem_append_left (by omega)]
    exact h k (by omega)
theorem rE_nI {w : Nat → Nat} {n s p : Nat} (h : s + p ≤ n) : lf (fun k => w (s + k) ≠ w (s + p + k)) 0 (n - max s (s + p)) = lf (fun k => w (s + k) ≠ w (s + p + k)) 0 (n - (s + p)) := by
  rw [show max s (s + p) = s + p by omega]
theorem mul2 (p : Nat) : (2 : Int32) * nI p = nI (2 * p) := pk_mul 2 p
theorem findOne_nI {N n s p : Nat} {w : Nat → Nat} {Ta : Nat → Int32} (hN : 100 ≤ N) (h : Rp n w Ta) (hp : 1 ≤ p) (hsp : s + 2 * p ≤ n) {l : List (Nat × Nat)} {A B D : Nat → Int32} (hH : Hold w n l A B D) (hl : isR w n s p → l.length < 64) : ∃ A2 B2 D2, fX6_findOne N (nI n) Ta (nI l.length) A B D (nI s) (nI p) = some (nI (l ++ (@ite _ (isR w n s p) (Classical.propDecidable _) [(s, p)] [])).length, A2, B2, D2) ∧ Hold w n (l ++ (@ite _ (isR w n s p) (Classical.propDecidable _) [(s, p)] [])) A2 B2 D2 := by
  have hn := h.le
  obtain ⟨e1, e2, e3, e4⟩ := rE_spec (w := w) (n := n) (s := s) (p := p) (by omega)
  have hJ : ¬ (0 < s ∧ w (s - 1) = w (s - 1 + p)) → ∃ A2 B2 D2, fX6_findOne_J24 N (nI n) Ta (nI l.length) A B D (nI s) (nI p) = some (nI (l ++ (@ite _ (isR w n s p) (Classical.propDecidable _) [(s, p)] [])).length, A2, B2, D2) ∧ Hold w n (l ++ (@ite _ (isR w n s p) (Classical.propDecidable _) [(s, p)] [])) A2 B2 D2 := by
    intro hleft
    unfold fX6_findOne_J24
    have hE : nI s + nI p + nI (lf (fun k => w (s + k) ≠ w (s + p + k)) 0 (n - (s + p))) = nI (rE w n s p) := by
      rw [nI_add, nI_add]; rfl
    have hstep := countSame_nI (N := N) hN h (show s ≤ n by omega) (show s + p ≤ n by omega)
    rw [rE_nI (by omega)] at hstep
    rw [nI_add, hstep, bn_s, ← nI_add, hE, mul2, q_sub (by omega)]
    by_cases c1 : rE w n s p - s < 2 * p
    · have hno : ¬ isR w n s p := fun hh => by have := hh.2.2.1; omega
      rw [if_pos ((nI_ltI (by omega) (by omega)).mpr c1), if_neg hno, List.append_nil]
      exact ⟨A, B, D, rfl, hH⟩
    · rw [if_neg (by rw [nI_ltI (by omega) (by omega)]; exact c1), firstC_nI hN h (by omega) e2, bn_s]
      have hlp := lp_spec (w := w) (show s < rE w n s p by omega)
      by_cases c2 : lp w s (rE w n s p) = p
      · have hyes : isR w n s p := ⟨hp, hsp, by omega, hleft, c2⟩
        have hl2 := hl hyes
        rw [if_pos (by rw [c2]), if_neg (by rw [q_64, nI_leI (by omega) (by omega)]; omega), put_nI hl2 (by decide), bn_s, put_nI hl2 (by decide), bn_s, put_nI hl2 (by decide), bn_s, if_pos hyes, nI_1, List.length_append, List.length_singleton]
        exact ⟨_, _, _, rfl, Hold_add hH⟩
      · have hno : ¬ isR w n s p := fun hh => c2 hh.2.2.2.2
        rw [if_neg (by rw [nI_eq (by omega) (by omega)]; exact c2), if_neg hno, List.append_nil]
        exact ⟨A, B, D, rfl, hH⟩
  unfold fX6_findOne
  by_cases c0 : s = 0
  · rw [if_pos (by rw [c0]; decide)]
    exact hJ (fun hh => by omega)
  · rw [if_neg (nI_nle (by omega) (by omega)), q_1, q_sub (by omega), letter_nI (by omega), bn_s, nI_add, letter_nI (by omega), bn_s, h.at (by omega), h.at (by omega)]
    by_cases c1 : w (s - 1) = w (s - 1 + p)
    · have hno : ¬ isR w n s p := fun hh => hh.2.2.2.1 ⟨by omega, c1⟩
      rw [if_pos (by rw [c1]), if_neg hno, List.append_nil]
      exact ⟨A, B, D, rfl, hH⟩
    · rw [if_neg (by rw [h.eq (by omega) (by omega)]; exact c1)]
      exact hJ (fun hh => c1 hh.2)
theorem rAt_one {w : Nat → Nat} {n s d p : Nat} {l : List (Nat × Nat)} : l ++ rAt w n s (d + 1) p = (l ++ (@ite _ (isR w n s p) (Classical.propDecidable _) [(s, p)] [])) ++ rAt w n s d (p + 1) := by
  rw [rAt, List.append_assoc]
theorem find17_H {N n s : Nat} {w : Nat → Nat} {Ta : Nat → Int32} (hN : 100 ≤ N) (h : Rp n w Ta) (hs : s < n) (k7 : Int32 → (Nat → Int32) → (Nat → Int32) → (Nat → Int32) → Int32 → Option (Int32 × (Nat → Int32) × (Nat → Int32) × (Nat → Int32))) : ∀ d p z (l : List (Nat × Nat)) (A B D : Nat → Int32), p + d = (n - s) / 2 + 1 → 1 ≤ p → d < z → Hold w n l A B D → (l ++ rAt w n s d p).length ≤ 64 → ∃ A2 B2 D2, fX6_find_H17 N (nI n) Ta k7 z (nI l.length) A B D (nI s) (nI p) = k7 (nI (l ++ rAt w n s d p).length) A2 B2 D2 (nI (s + 1)) ∧ Hold w n (l ++ rAt w n s d p) A2 B2 D2 := by
  have hn := h.le
  intro d
  induction d with
  | zero =>
    intro p z l A B D hp hp1 hz hH hl
    obtain ⟨z, rfl⟩ : ∃ y, z = y + 1 := ⟨z - 1, by omega⟩
    rw [rAt, List.append_nil]
    refine ⟨A, B, D, ?_, hH⟩
    show fX6_find_B17 N _ _ _ _ _ _ _ _ _ _ = _
    unfold fX6_find_B17 fX2_count fX6_find_J42
    rw [bn_s, mul2, nI_add, if_pos (by rw [nI_ltI (by omega) (by omega)]; omega), nI_1]
  | succ d ih =>
    intro p z l A B D hp hp1 hz hH hl
    obtain ⟨z, rfl⟩ : ∃ y, z = y + 1 := ⟨z - 1, by omega⟩
    rw [rAt_one] at hl ⊢
    obtain ⟨A1, B1, D1, f1, f2⟩ := findOne_nI (s := s) (p := p) hN h hp1 (by omega) hH (fun hh => by
      rw [if_pos hh, List.length_append, List.length_append, List.length_singleton] at hl
      omega)
    obtain ⟨A2, B2, D2, g1, g2⟩ := ih (p + 1) z _ A1 B1 D1 (by omega) (by omega) (by omega) f2 hl
    refine ⟨A2, B2, D2, ?_, g2⟩
    show fX6_find_B17 N _ _ _ _ _ _ _ _ _ _ = _
    unfold fX6_find_B17 fX2_count
    rw [bn_s, mul2, nI_add, if_neg (by rw [nI_ltI (by omega) (by omega)]; omega), f1, bn_s, nI_1]
    exact g1
theorem find7_H {N n : Nat} {w : Nat → Nat} {Ta : Nat → Int32} (hN : 100 ≤ N) (h : Rp n w Ta) : ∀ d s z (l : List (Nat × Nat)) (A B D : Nat → Int32), s + d = n → d < z → Hold w n l A B D → (l ++ rFrom w n d s).length ≤ 64 → ∃ A2 B2 D2, fX6_find_H7 N (nI n) Ta z (nI l.length) A B D (nI s) = some (nI (l ++ rFrom w n d s).length, A2, B2, D2) ∧ Hold w n (l ++ rFrom w n d s) A2 B2 D2 := by
  have hn := h.le
  intro d
  induction d with
  | zero =>
    intro s z l A B D hs hz hH hl
    obtain ⟨z, rfl⟩ : ∃ y, z = y + 1 := ⟨z - 1, by omega⟩
    rw [rFrom, List.append_nil]
    refine ⟨A, B, D, ?_, hH⟩
    show fX6_find_B7 N _ _ _ _ _ _ _ _ = _
    unfold fX6_find_B7 fX2_count
    rw [bn_s, if_pos (by rw [nI_leI (by omega) (by omega)]; omega)]
    rfl
  | succ d ih =>
    intro s z l A B D hs hz hH hl
    obtain ⟨z, rfl⟩ : ∃ y, z = y + 1 := ⟨z - 1, by omega⟩
    rw [rFrom, ← List.append_assoc] at hl ⊢
    obtain ⟨A1, B1, D1, f1, f2⟩ := find17_H (N := N) hN h (show s < n by omega) (fX6_find_H7 N (nI n) Ta z) ((n - s) / 2) 1 N l A B D (by omega) (by omega) (by omega) hH (by
      rw [List.length_append] at hl
      omega)
    obtain ⟨A2, B2, D2, g1, g2⟩ := ih (s + 1) z _ A1 B1 D1 (by omega) (by omega) f2 hl
    refine ⟨A2, B2, D2, ?_, g2⟩
    show fX6_find_B7 N _ _ _ _ _ _ _ _ = _
    unfold fX6_find_B7 fX2_count
    rw [bn_s, if_neg (by rw [nI_leI (by omega) (by omega)]; omega), q_1, f1]
    exact g1
theorem rfind_nI {N n : Nat} {w : Nat → Nat} {Ta : Nat → Int32} (hN : 100 ≤ N) (h : Rp n w Ta) (Rn : Int32) (A B D : Nat → Int32) : ∃ A2 B2 D2, fX6_find N (nI n) Ta Rn A B D = some (nI (RuL w n).length, A2, B2, D2) ∧ Hold w n (RuL w n) A2 B2 D2 := by
  have hn := h.le
  have hlen := RuL_len (w := w) (n := n)
  obtain ⟨A2, B2, D2, g1, g2⟩ := find7_H (N := N) hN h n 0 N [] A B D (by omega) (by omega) (fun k hk => by simp at hk) (by
    show (RuL w n).length ≤ 64
    omega)
  exact ⟨A2, B2, D2, g1, g2⟩
theorem q_inb128 {a : Nat} (h : a < 128) : inb (nI a) 128 = true := q_inb h (by decide)
/-! sums of quotients are numbers -/
def isFin (x : UInt64) : Bool := match FP.Core.decode FP.Core.b64 x.toNat with
  | .fin _ _ _ => true
  | _ => false
theorem fin_q : ∀ a : Fin 65, ∀ b : Fin 65, b.val = 0 ∨ isFin (FP.ddiv (FP.i2d (nI a.val)) (FP.i2d (nI b.val))) = true := by decide +kernel
theorem fin_qn {a b : Nat} (ha : a ≤ 64) (hb : b ≤ 64) (h0 : 1 ≤ b) : isFin (FP.ddiv (FP.i2d (nI a)) (FP.i2d (nI b))) = true := by
  rcases fin_q ⟨a, by omega⟩ ⟨b, by omega⟩ with h | h
  · exact absurd h (show ¬ b = 0 by omega)
  · exact h
theorem nonan_nat (x : UInt64) : nonan x = true ↔ x.toNat % 9223372036854775808 ≤ 9218868437227405312 := by
  unfold nonan
  rw [decide_eq_true_iff, UInt64.le_iff_toNat_le, UInt64.toNat_and]
  have h1 : (9223372036854775807 : UInt64).toNat = 2 ^ 63 - 1 := by decide
  have h2 : (9218868437227405312 : UInt64).toNat = 9218868437227405312 := by decide
  rw [h1, h2, Nat.and_two_pow_sub_one_eq_mod]
theorem asm_b64 (s : Bool) (e t : Nat) : FP.Core.assemble FP.Core.b64 s e t = (s.toNat * 2048 + e) * 4503599627370496 + t := rfl
theorem enc_inf (s : Bool) : FP.Core.encode FP.Core.b64 (.inf s) = (s.toNat * 2048 + 2047) * 4503599627370496 + 0 := rfl
theorem enc_ok {d : FP.Core.Datum} (h : (∃ s, d = .inf s) ∨ ∃ s c q, d = .fin s c q ∧ c < 9007199254740992 ∧ q ≤ 971) : FP.Core.encode FP.Core.b64 d < 18446744073709551616 ∧ FP.Core.encode FP.Core.b64 d % 9223372036854775808 ≤ 9218868437227405312 := by
  rcases h with ⟨s, rfl⟩ | ⟨s, c, q, rfl, h1, h2⟩
  · rw [enc_inf]
    cases s <;> decide
  · have ht : FP.Core.Fmt.tails FP.Core.b64 = 4503599627370496 := rfl
    have hq : FP.Core.Fmt.qmin FP.Core.b64 = -1074 := rfl
    unfold FP.Core.encode
    by_cases e : c < FP.Core.Fmt.tails FP.Core.b64
    · simp only [if_pos e, asm_b64]
      rw [ht] at e
      cases s
      · rw [show Bool.toNat false = 0 from rfl]; omega
      · rw [show Bool.toNat true = 1 from rfl]; omega
    · simp only [if_neg e, asm_b64]
      rw [ht] at e ⊢
      rw [hq]
      have h3 : (q - -1074).toNat + 1 ≤ 2046 := by omega
      generalize (q - -1074).toNat + 1 = x at h3
      cases s
      · rw [show Bool.toNat false = 0 from rfl]; omega
      · rw [show Bool.toNat true = 1 from rfl]; omega
theorem bound_ok {s : Bool} {c : Nat} {q : Int} (h : c < 9007199254740992) : (∃ s2, FP.Core.bound FP.Core.b64 s c q = .inf s2) ∨ ∃ s2 c2 q2, FP.Core.bound FP.Core.b64 s c q = .fin s2 c2 q2 ∧ c2 < 9007199254740992 ∧ q2 ≤ 971 := by
  have hq : FP.Core.Fmt.qmax FP.Core.b64 = 971 := rfl
  unfold FP.Core.bound
  by_cases e : q ≤ FP.Core.Fmt.qmax FP.Core.b64
  · rw [if_pos e]
    exact Or.inr ⟨s, c, q, rfl, h, by rw [hq] at e; exact e⟩
  · rw [if_neg e]
    exact Or.inl ⟨s, rfl⟩
theorem round_ok {s : Bool} {c : Nat} {q : Int} : (∃ s2, FP.Core.round FP.Core.b64 (.fin s c q) = .inf s2) ∨ ∃ s2 c2 q2, FP.Core.round FP.Core.b64 (.fin s c q) = .fin s2 c2 q2 ∧ c2 < 9007199254740992 ∧ q2 ≤ 971 := by
  show (∃ s2, FP.Core.roundRatio FP.Core.b64 s c 1 q = .inf s2) ∨ ∃ s2 c2 q2, FP.Core.roundRatio FP.Core.b64 s c 1 q = .fin s2 c2 q2 ∧ c2 < 9007199254740992 ∧ q2 ≤ 971
  have hq : FP.Core.Fmt.qmin FP.Core.b64 = -1074 := rfl
  have hp : 2 ^ FP.Core.b64.p = 9007199254740992 := by decide
  have ht : FP.Core.Fmt.tails FP.Core.b64 = 4503599627370496 := rfl
  unfold FP.Core.roundRatio
  by_cases e : c = 0
  · rw [if_pos e]
    exact Or.inr ⟨s, 0, _, rfl, by decide, by rw [hq]; decide⟩
  · rw [if_neg e]
    unfold FP.Core.roundAt FP.Core.settle
    rw [hp]
    split
    · rename_i h; exact bound_ok h
    · rw [ht]; exact bound_ok (by decide)
theorem dadd_ok {x y : UInt64} (hx : nonan x = true) (hy : isFin y = true) : nonan (FP.dadd x y) = true := by
  rw [nonan_nat] at hx ⊢
  have hdx : FP.Core.decode FP.Core.b64 x.toNat ≠ .nan := by
    have h1 : FP.Core.Fmt.exps FP.Core.b64 = 2048 := rfl
    have h2 : FP.Core.Fmt.tails FP.Core.b64 = 4503599627370496 := rfl
    unfold FP.Core.decode FP.Core.fieldE FP.Core.fieldT
    rw [h1, h2]
    split
    · split
      · exact FP.Core.Datum.noConfusion
      · exfalso; omega
    · split <;> exact FP.Core.Datum.noConfusion
  obtain ⟨s, c, q, hdy⟩ : ∃ s c q, FP.Core.decode FP.Core.b64 y.toNat = .fin s c q := by
    unfold isFin at hy
    generalize FP.Core.decode FP.Core.b64 y.toNat = d at hy
    cases d with
    | nan => simp at hy
    | inf s => simp at hy
    | fin s c q => exact ⟨s, c, q, rfl⟩
  have hgo : FP.Core.add FP.Core.b64 x.toNat y.toNat < 18446744073709551616 ∧ FP.Core.add FP.Core.b64 x.toNat y.toNat % 9223372036854775808 ≤ 9218868437227405312 := by
    unfold FP.Core.add
    rw [hdy]
    refine enc_ok ?_
    generalize FP.Core.decode FP.Core.b64 x.toNat = d at hdx
    cases d with
    | nan => exact absurd rfl hdx
    | inf s2 => exact Or.inl ⟨s2, rfl⟩
    | fin s2 c2 q2 => exact round_ok
  show (UInt64.ofNat (FP.Core.add FP.Core.b64 x.toNat y.toNat)).toNat % 9223372036854775808 ≤ 9218868437227405312
  rw [UInt64.toNat_ofNat', Nat.mod_eq_of_lt hgo.1]
  exact hgo.2

