/-! the walk through the necklaces of a length: checked by the kernel against the words in their order -/
def scanS (L m : Nat) : Nat → Nat → Option (Int32 × Int32) → Nat → Option (Option (Int32 × Int32) × Nat)
  | 0, _, o, c => some (o, c)
  | d + 1, x, o, c => if nkR L m x = 0 then scanS L m d (x + 1) o c else
      match o with
      | none => none
      | some (w, r) => if w = nI (p8 L m x) then if r = nI (nkR L m x) then
          match fX3_toNextNecklace 100000 (nI L - 1) (nI m) w r with
          | none => none
          | some (v, w2, r2) => if v = 0 then scanS L m d (x + 1) none (c + 1) else scanS L m d (x + 1) (some (w2, r2)) (c + 1)
        else none else none
def ws (L m : Nat) : Nat → Option (Option (Int32 × Int32))
  | 0 => some (some (0, 1))
  | k + 1 => match ws L m k with
    | some (some (w, r)) => match fX3_toNextNecklace 100000 (nI L - 1) (nI m) w r with
      | none => none
      | some (v, w2, r2) => if v = 0 then some none else some (some (w2, r2))
    | _ => none
theorem scanS_0 {L m x c : Nat} {o : Option (Int32 × Int32)} : scanS L m 0 x o c = some (o, c) := rfl
theorem scanS_s {L m d x c : Nat} {o : Option (Int32 × Int32)} : scanS L m (d + 1) x o c = if nkR L m x = 0 then scanS L m d (x + 1) o c else
      match o with
      | none => none
      | some (w, r) => if w = nI (p8 L m x) then if r = nI (nkR L m x) then
          match fX3_toNextNecklace 100000 (nI L - 1) (nI m) w r with
          | none => none
          | some (v, w2, r2) => if v = 0 then scanS L m d (x + 1) none (c + 1) else scanS L m d (x + 1) (some (w2, r2)) (c + 1)
        else none else none := rfl
theorem scanS_f {L m d x c : Nat} {o : Option (Int32 × Int32)} (h : nkR L m x = 0) : scanS L m (d + 1) x o c = scanS L m d (x + 1) o c := by rw [scanS_s, if_pos h]
theorem scanS_t {L m d x c : Nat} {o : Option (Int32 × Int32)} {res : Option (Int32 × Int32) × Nat} (h : nkR L m x ≠ 0) (hs : scanS L m (d + 1) x o c = some res) : ∃ v w2 r2, o = some (nI (p8 L m x), nI (nkR L m x)) ∧ fX3_toNextNecklace 100000 (nI L - 1) (nI m) (nI (p8 L m x)) (nI (nkR L m x)) = some (v, w2, r2) ∧ ((v = 0 ∧ scanS L m d (x + 1) none (c + 1) = some res) ∨ (v ≠ 0 ∧ scanS L m d (x + 1) (some (w2, r2)) (c + 1) = some res)) := by
  rw [scanS_s, if_neg h] at hs
  cases o with
  | none => cases hs
  | some wr =>
    obtain ⟨w, r⟩ := wr
    simp only at hs
    by_cases h1 : w = nI (p8 L m x)
    · rw [if_pos h1] at hs
      by_cases h2 : r = nI (nkR L m x)
      · rw [if_pos h2] at hs
        subst h1 h2
        cases h3 : fX3_toNextNecklace 100000 (nI L - 1) (nI m) (nI (p8 L m x)) (nI (nkR L m x)) with
        | none => rw [h3] at hs; cases hs
        | some t =>
          obtain ⟨v, w2, r2⟩ := t
          rw [h3] at hs
          simp only at hs
          refine ⟨v, w2, r2, rfl, rfl, ?_⟩
          by_cases h4 : v = 0
          · rw [if_pos h4] at hs; exact Or.inl ⟨h4, hs⟩
          · rw [if_neg h4] at hs; exact Or.inr ⟨h4, hs⟩
      · rw [if_neg h2] at hs; cases hs
    · rw [if_neg h1] at hs; cases hs
theorem scan_cat {L m e : Nat} {o2 : Option (Int32 × Int32)} {c2 : Nat} {r : Option (Int32 × Int32) × Nat} : ∀ d x o c, scanS L m d x o c = some (o2, c2) → scanS L m e (x + d) o2 c2 = some r → scanS L m (d + e) x o c = some r := by
  intro d
  induction d with
  | zero =>
    intro x o c h1 h2
    rw [scanS_0] at h1
    have := Option.some.inj h1
    rw [Prod.mk.injEq] at this
    rw [Nat.zero_add, this.1, this.2]
    exact h2
  | succ d ih =>
    intro x o c h1 h2
    rw [show d + 1 + e = (d + e) + 1 by omega]
    rw [show x + (d + 1) = x + 1 + d by omega] at h2
    by_cases hq : nkR L m x = 0
    · rw [scanS_f hq] at h1 ⊢
      exact ih (x + 1) o c h1 h2
    · obtain ⟨v, w2, r2, e1, e2, e3⟩ := scanS_t hq h1
      subst e1
      rw [scanS_s, if_neg hq]
      simp only [if_pos, e2]
      rcases e3 with ⟨e4, e5⟩ | ⟨e4, e5⟩
      · rw [if_pos e4]; exact ih (x + 1) _ _ e5 h2
      · rw [if_neg e4]; exact ih (x + 1) _ _ e5 h2
theorem scan_cat2 {L m d e n x x2 c c2 : Nat} {o o2 : Option (Int32 × Int32)} {r : Option (Int32 × Int32) × Nat} (hn : d + e = n) (hx : x + d = x2) (h1 : scanS L m d x o c = some (o2, c2)) (h2 : scanS L m e x2 o2 c2 = some r) : scanS L m n x o c = some r := by
  subst hn hx
  exact scan_cat d x o c h1 h2
theorem ws_next {L m k : Nat} {w r v w2 r2 : Int32} (h : ws L m k = some (some (w, r))) (h2 : fX3_toNextNecklace 100000 (nI L - 1) (nI m) w r = some (v, w2, r2)) : ws L m (k + 1) = if v = 0 then some none else some (some (w2, r2)) := by
  rw [ws, h]
  simp only [h2]
theorem scan_ws {L m : Nat} {o2 : Option (Int32 × Int32)} {c2 : Nat} : ∀ d x o c, scanS L m d x o c = some (o2, c2) → ws L m c = some o → ws L m c2 = some o2 ∧ c2 = c + ct (fun y => nkR L m y ≠ 0) x d ∧ ∀ y, x ≤ y → y < x + d → nkR L m y ≠ 0 → ws L m (c + ct (fun y => nkR L m y ≠ 0) x (y - x)) = some (some (nI (p8 L m y), nI (nkR L m y))) := by
  intro d
  induction d with
  | zero =>
    intro x o c h1 h2
    rw [scanS_0] at h1
    have := Option.some.inj h1
    rw [Prod.mk.injEq] at this
    refine ⟨by rw [← this.2, ← this.1]; exact h2, by rw [ct_0, Nat.add_zero]; exact this.2.symm, fun y h1 h2 => by omega⟩
  | succ d ih =>
    intro x o c h1 h2
    by_cases hq : nkR L m x = 0
    · rw [scanS_f hq] at h1
      obtain ⟨g1, g2, g3⟩ := ih (x + 1) o c h1 h2
      have hf : ¬ nkR L m x ≠ 0 := fun hh => hh hq
      refine ⟨g1, by rw [ct_f (P := fun y => nkR L m y ≠ 0) hf]; exact g2, fun y y1 y2 y3 => ?_⟩
      by_cases e : y = x
      · rw [e] at y3; exact absurd hq y3
      · rw [show y - x = (y - (x + 1)) + 1 by omega, ct_f (P := fun y => nkR L m y ≠ 0) hf]
        exact g3 y (by omega) (by omega) y3
    · obtain ⟨v, w2, r2, e1, e2, e3⟩ := scanS_t hq h1
      subst e1
      have hn := ws_next h2 e2
      have ht : nkR L m x ≠ 0 := hq
      have key : ∀ o3, scanS L m d (x + 1) o3 (c + 1) = some (o2, c2) → ws L m (c + 1) = some o3 → ws L m c2 = some o2 ∧ c2 = c + ct (fun y => nkR L m y ≠ 0) x (d + 1) ∧ ∀ y, x ≤ y → y < x + (d + 1) → nkR L m y ≠ 0 → ws L m (c + ct (fun y => nkR L m y ≠ 0) x (y - x)) = some (some (nI (p8 L m y), nI (nkR L m y))) := by
        intro o3 k1 k2
        obtain ⟨g1, g2, g3⟩ := ih (x + 1) o3 (c + 1) k1 k2
        refine ⟨g1, by rw [ct_t (P := fun y => nkR L m y ≠ 0) ht]; omega, fun y y1 y2 y3 => ?_⟩
        by_cases e : y = x
        · rw [e, Nat.sub_self, ct_0, Nat.add_zero]; exact h2
        · rw [show y - x = (y - (x + 1)) + 1 by omega, ct_t (P := fun y => nkR L m y ≠ 0) ht, ← Nat.add_assoc]
          exact g3 y (by omega) (by omega) y3
      rcases e3 with ⟨e4, e5⟩ | ⟨e4, e5⟩
      · rw [if_pos e4] at hn; exact key none e5 hn
      · rw [if_neg e4] at hn; exact key _ e5 hn
/-- the whole walk is right, and as many are counted -/
def WalkOk (L m : Nat) : Prop := ∃ C, scanS L m (L ^ m) 0 (some (0, 1)) 0 = some (none, C) ∧ C ≤ 65536 ∧ fX4_necklaceCount 100000 (nI L) (nI m) = some (Int64.ofNat C)
def chkS (L m : Nat) : Bool := match scanS L m (L ^ m) 0 (some (0, 1)) 0 with
  | some (none, C) => decide (C ≤ 65536) && decide (fX4_necklaceCount 100000 (nI L) (nI m) = some (Int64.ofNat C))
  | _ => false
theorem chkS_ok {L m : Nat} (h : chkS L m = true) : WalkOk L m := by
  unfold chkS at h
  split at h
  · rename_i C hC
    rw [Bool.and_eq_true, decide_eq_true_eq, decide_eq_true_eq] at h
    exact ⟨C, hC, h.1, h.2⟩
  · exact absurd h (fun hh => Bool.noConfusion hh)
/-! a necklace with a number -/
theorem ct_hit {P : Nat → Prop} {j : Nat} : ∀ n, j < ct P 0 n → ∃ y, y < n ∧ P y ∧ ct P 0 y = j := by
  intro n
  induction n with
  | zero => intro h; rw [ct_0] at h; omega
  | succ n ih =>
    intro h
    rw [ct_add, Nat.zero_add] at h
    by_cases e : j < ct P 0 n
    · obtain ⟨y, y1, y2, y3⟩ := ih e
      exact ⟨y, by omega, y2, y3⟩
    · by_cases e2 : P n
      · rw [ct_t e2, ct_0] at h
        exact ⟨n, by omega, e2, by omega⟩
      · rw [ct_f e2, ct_0] at h
        omega
theorem ct_mono_n {P : Nat → Prop} {a b : Nat} (h : a ≤ b) : ct P 0 a ≤ ct P 0 b := by
  rw [show b = a + (b - a) by omega, ct_add]
  omega
theorem walk_facts {L m : Nat} (h : WalkOk L m) : ∃ C, C ≤ 65536 ∧ C = ct (fun y => nkR L m y ≠ 0) 0 (L ^ m) ∧ fX4_necklaceCount 100000 (nI L) (nI m) = some (Int64.ofNat C) ∧ ∀ y, y < L ^ m → nkR L m y ≠ 0 → ws L m (ct (fun y => nkR L m y ≠ 0) 0 y) = some (some (nI (p8 L m y), nI (nkR L m y))) := by
  obtain ⟨C, h1, h2, h3⟩ := h
  obtain ⟨g1, g2, g3⟩ := scan_ws _ _ _ _ h1 rfl
  refine ⟨C, h2, by rw [g2, Nat.zero_add], h3, fun y y1 y2 => ?_⟩
  have := g3 y (by omega) (by omega) y2
  rw [Nat.zero_add, Nat.sub_zero] at this
  exact this
theorem ws_back {L m j : Nat} {w r w2 r2 : Int32} (h : ws L m j = some (some (w, r))) (h2 : ws L m (j + 1) = some (some (w2, r2))) : ∃ v, v ≠ 0 ∧ fX3_toNextNecklace 100000 (nI L - 1) (nI m) w r = some (v, w2, r2) := by
  rw [ws, h] at h2
  simp only at h2
  cases h3 : fX3_toNextNecklace 100000 (nI L - 1) (nI m) w r with
  | none => rw [h3] at h2; cases h2
  | some t =>
    obtain ⟨v, w3, r3⟩ := t
    rw [h3] at h2
    simp only at h2
    by_cases e : v = 0
    · rw [if_pos e] at h2; cases h2
    · rw [if_neg e] at h2
      have h4 := Option.some.inj (Option.some.inj h2)
      rw [Prod.mk.injEq] at h4
      exact ⟨v, e, by rw [h4.1, h4.2]⟩
theorem p8_lt {L : Nat} (hL : 1 ≤ L) (hL8 : L ≤ 8) : ∀ m x, p8 L m x < 8 ^ m := by
  intro m
  induction m with
  | zero => intro x; rw [p8, Nat.pow_zero]; omega
  | succ m ih =>
    intro x
    have h1 := ih (x / L)
    have h2 : x % L < L := Nat.mod_lt _ (by omega)
    rw [p8, Nat.pow_succ]
    omega
theorem p8_dg {L : Nat} (hL : 1 ≤ L) (hL8 : L ≤ 8) : ∀ m x t, t < m → p8 L m x / 8 ^ t % 8 = x / L ^ t % L := by
  intro m
  induction m with
  | zero => intro x t ht; omega
  | succ m ih =>
    intro x t ht
    have h2 : x % L < L := Nat.mod_lt _ (by omega)
    by_cases e : t = 0
    · rw [e, Nat.pow_zero, Nat.pow_zero, Nat.div_one, Nat.div_one, p8]
      omega
    · obtain ⟨u, rfl⟩ : ∃ u, t = u + 1 := ⟨t - 1, by omega⟩
      rw [p8, Nat.pow_succ, Nat.pow_succ, Nat.mul_comm (8 ^ u) 8, Nat.mul_comm (L ^ u) L, ← Nat.div_div_eq_div_mul, ← Nat.div_div_eq_div_mul, ← ih (x / L) u (by omega)]
      congr 2
      omega
theorem p8_mono {L : Nat} (hL : 1 ≤ L) (hL8 : L ≤ 8) : ∀ m x y, x < y → y < L ^ m → p8 L m x < p8 L m y := by
  intro m
  induction m with
  | zero => intro x y h1 h2; rw [Nat.pow_zero] at h2; omega
  | succ m ih =>
    intro x y h1 h2
    have a1 : x % L < L := Nat.mod_lt _ (by omega)
    have a2 : y % L < L := Nat.mod_lt _ (by omega)
    have d1 := Nat.div_add_mod x L
    have d2 := Nat.div_add_mod y L
    have h3 : y / L < L ^ m := by
      rw [Nat.div_lt_iff_lt_mul (by omega), ← Nat.pow_succ]
      exact h2
    have h4 : x / L ≤ y / L := Nat.div_le_div_right (by omega)
    rw [p8, p8]
    by_cases e : x / L = y / L
    · rw [e] at d1 ⊢
      omega
    · have := ih (x / L) (y / L) (by omega) h3
      omega
theorem sh_8 : ∀ t : Fin 8, (((3 : Int32) * nI t.val &&& 31).toBitVec.smod 32).toNat = 3 * t.val := by decide +kernel
theorem walkLetter {N L m x k : Nat} {g r : Int32} (hL : 1 ≤ L) (hL8 : L ≤ 8) (hm : m ≤ 8) (hk : k < m) : fX3_letter N g (nI m) (nI (p8 L m x)) r (nI k) = some (nI (dg L m x k)) := by
  have h1 := p8_lt hL hL8 m x
  have h2 : 8 ^ m ≤ 8 ^ 8 := Nat.pow_le_pow_right (by decide) hm
  have h3 : 8 ^ 8 = 16777216 := by decide
  have h4 := sh_8 ⟨m - 1 - k, by omega⟩
  unfold fX3_letter
  rw [q_1, q_sub (by omega), q_sub (by omega)]
  rw [pk_shrN (by omega) _ (3 * (m - 1 - k)) h4]
  rw [pk_andN (n := p8 L m x / 2 ^ (3 * (m - 1 - k))) (by have := Nat.div_le_self (p8 L m x) (2 ^ (3 * (m - 1 - k))); omega) 3 (by decide)]
  rw [show 2 ^ (3 * (m - 1 - k)) = 8 ^ (m - 1 - k) by rw [Nat.pow_mul], p8_dg hL hL8 m x (m - 1 - k) (by omega)]
  rfl
theorem pushW_H {N L m x : Nat} {g r : Int32} (hN : 100 ≤ N) (hL : 1 ≤ L) (hL8 : L ≤ 8) (hm : m ≤ 8) : ∀ d k z (f : Nat → Int32), k + d = m → d < z → (∀ j, j < k → f j = nI (dg L m x j)) → ∃ f2, fX8_pushFromWalk_H2 N g (nI m) (nI (p8 L m x)) r z (nI k) f (nI m) (nI k) = some (nI m, f2) ∧ ∀ j, j < m → f2 j = nI (dg L m x j) := by
  intro d
  induction d with
  | zero =>
    intro k z f hk hz hf
    obtain ⟨z, rfl⟩ : ∃ y, z = y + 1 := ⟨z - 1, by omega⟩
    have : k = m := by omega
    subst this
    refine ⟨f, ?_, hf⟩
    show fX8_pushFromWalk_B2 N _ _ _ _ _ _ _ _ _ = _
    unfold fX8_pushFromWalk_B2
    rw [if_pos (Int32.le_refl _)]
    rfl
  | succ d ih =>
    intro k z f hk hz hf
    obtain ⟨z, rfl⟩ : ∃ y, z = y + 1 := ⟨z - 1, by omega⟩
    obtain ⟨f1, p1, p2, p3, p4⟩ := push_nI (N := N) (n := k) (v := nI (dg L m x k)) hN (by omega) f
    obtain ⟨f2, h1, h2⟩ := ih (k + 1) z f1 (by omega) (by omega) (fun j hj => by
      by_cases e : j = k
      · rw [e]; exact p2
      · rw [p3 j (by omega)]; exact hf j (by omega))
    refine ⟨f2, ?_, h2⟩
    show fX8_pushFromWalk_B2 N _ _ _ _ _ _ _ _ _ = _
    unfold fX8_pushFromWalk_B2
    rw [if_neg (by rw [nI_leI (by omega) (by omega)]; omega), walkLetter hL hL8 hm (by omega), bn_s, p1, bn_s, nI_1]
    exact h1
theorem loadC_H {L m k : Nat} {Tn : Int32} {Ta : Nat → Int32} {w2 r2 : Int32} (hk : k < 2 ^ 31) (hall : ∀ j, j ≤ k → ∃ w r, ws L m j = some (some (w, r))) (hlast : ws L m k = some (some (w2, r2))) : ∀ d j z w r, j + d = k → d < z → ws L m j = some (some (w, r)) → fX8_loadNecklace_H50 100000 z Tn Ta (nI L - 1) (nI m) w r (nI m) (nI k) (nI j) = fX8_loadNecklace_J70 100000 Tn Ta (nI L - 1) (nI m) w2 r2 (nI m) := by
  intro d
  induction d with
  | zero =>
    intro j z w r hj hz hw
    obtain ⟨z, rfl⟩ : ∃ y, z = y + 1 := ⟨z - 1, by omega⟩
    have : j = k := by omega
    subst this
    rw [hlast] at hw
    have h4 := Option.some.inj (Option.some.inj hw)
    rw [Prod.mk.injEq] at h4
    show fX8_loadNecklace_B50 100000 _ _ _ _ _ _ _ _ _ _ = _
    unfold fX8_loadNecklace_B50
    rw [if_pos (Int32.le_refl _), h4.1, h4.2]
  | succ d ih =>
    intro j z w r hj hz hw
    obtain ⟨z, rfl⟩ : ∃ y, z = y + 1 := ⟨z - 1, by omega⟩
    obtain ⟨w3, r3, h3⟩ := hall (j + 1) (by omega)
    obtain ⟨v, v1, v2⟩ := ws_back hw h3
    show fX8_loadNecklace_B50 100000 _ _ _ _ _ _ _ _ _ _ = _
    unfold fX8_loadNecklace_B50
    rw [if_neg (by rw [nI_leI (by omega) (by omega)]; omega), v2, bn_s, nI_1]
    exact ih (j + 1) z w3 r3 (by omega) (by omega) h3
theorem nI_nm1 {y : Nat} (h : y < 2 ^ 31) : ¬ nI y = (-1 : Int32) := by
  intro hh
  have h1 := nI_toInt h
  rw [hh] at h1
  have : (-1 : Int32).toInt = -1 := by decide
  omega
/-! the number of a necklace -/
theorem or_nI (a b : Nat) : nI a ||| nI b = nI (a ||| b) := by
  apply Int32.toBitVec_inj.mp
  rw [Int32.toBitVec_or]
  show BitVec.ofNat 32 a ||| BitVec.ofNat 32 b = BitVec.ofNat 32 (a ||| b)
  rw [BitVec.ofNat_or]
theorem pack_nI {N u l : Nat} (hl : l < 8) (hu : u * 8 < 2 ^ 31) : fX3_pack N (nI u) (nI l) = some (nI (u * 8 + l)) := by
  unfold fX3_pack
  have h1 : ((3 : Int32) &&& 31).toBitVec.smod 32 = 3 := by decide
  rw [pk_shlN (n := u) _ 3 (by rw [h1]; rfl) (by omega), pk_andN (n := l) (by omega) 3 (by decide), Nat.mod_eq_of_lt (by omega), or_nI]
  have := Nat.two_pow_add_eq_or_of_lt (i := 3) (b := l) (by omega) u
  rw [show 2 ^ 3 = 8 from rfl] at this ⊢
  rw [Nat.mul_comm u 8, ← this]
/-- a row of letters as a number -/
def pv (B : Nat) (f : Nat → Nat) : Nat → Nat
  | 0 => 0
  | k + 1 => pv B f k * B + f k
theorem pv_lt {B L : Nat} {f : Nat → Nat} (hB : L ≤ B) : ∀ k, (∀ j, j < k → f j < L) → pv B f k < B ^ k := by
  intro k
  induction k with
  | zero => intro h; rw [pv, Nat.pow_zero]; omega
  | succ k ih =>
    intro h
    have h1 := ih (fun j hj => h j (by omega))
    have h2 := h k (by omega)
    have h3 : (pv B f k + 1) * B ≤ B ^ k * B := Nat.mul_le_mul_right B h1
    rw [Nat.add_mul, Nat.one_mul] at h3
    rw [pv, Nat.pow_succ]
    omega
theorem pv_p8 {L : Nat} {f : Nat → Nat} (hL : 1 ≤ L) : ∀ k, (∀ j, j < k → f j < L) → p8 L k (pv L f k) = pv 8 f k := by
  intro k
  induction k with
  | zero => intro h; rfl
  | succ k ih =>
    intro h
    have h2 := h k (by omega)
    rw [pv, pv, p8, Nat.mul_comm (pv L f k) L, Nat.mul_add_mod, Nat.mul_add_div (by omega), Nat.mod_eq_of_lt h2, Nat.div_eq_of_lt h2, Nat.add_zero, ih (fun j hj => h j (by omega))]
theorem pv_dg {L : Nat} {f : Nat → Nat} (hL : 1 ≤ L) : ∀ m, (∀ j, j < m → f j < L) → ∀ k, k < m → dg L m (pv L f m) k = f k := by
  intro m
  induction m with
  | zero => intro h k hk; omega
  | succ m ih =>
    intro h k hk
    have h2 := h m (by omega)
    by_cases e : k = m
    · subst e
      unfold dg
      rw [show k + 1 - 1 - k = 0 by omega, Nat.pow_zero, Nat.div_one, pv, Nat.mul_comm, Nat.mul_add_mod, Nat.mod_eq_of_lt h2]
    · have h3 := ih (fun j hj => h j (by omega)) k (by omega)
      unfold dg at h3 ⊢
      rw [show m + 1 - 1 - k = 1 + (m - 1 - k) by omega, Nat.pow_add, Nat.pow_one, ← Nat.div_div_eq_div_mul, pv, Nat.mul_comm (pv L f m) L, Nat.mul_add_div (by omega), Nat.div_eq_of_lt h2, Nat.add_zero]
      exact h3
theorem dv_RR {n : Nat} {w : Nat → Nat} {f : Nat → Int32} (h : Rp n w f) {a b s t : Nat} (hab : a < b) (hb : b ≤ n) : 0 < dv w a (b - a) s t ↔ RR false w a (b - a) t s := by
  rw [dv_pos h hab hb]
  unfold RR uu
  constructor
  · rintro ⟨k, k1, k2, k3⟩
    refine ⟨k, k1, fun j hj => ?_, ?_⟩
    · rw [Nat.add_comm t j, Nat.add_comm s j]; exact (k2 j hj).symm
    · rw [Nat.add_comm t k, Nat.add_comm s k]; exact k3
  · rintro ⟨k, k1, k2, k3⟩
    refine ⟨k, k1, fun j hj => ?_, ?_⟩
    · have := k2 j hj
      rw [Nat.add_comm t j, Nat.add_comm s j] at this
      exact this.symm
    · simp only [ltR] at k3
      rw [Nat.add_comm t k, Nat.add_comm s k] at k3; exact k3
theorem lb_min {n : Nat} {w : Nat → Nat} {f : Nat → Int32} (h : Rp n w f) {a b : Nat} (hab : a < b) (hb : b ≤ n) : ∀ d k best, k + d = b - a → best < k → (∀ t, t < k → ¬ RR false w a (b - a) t best) → lb w a (b - a) d k best < b - a ∧ ∀ t, t < b - a → ¬ RR false w a (b - a) t (lb w a (b - a) d k best) := by
  intro d
  induction d with
  | zero =>
    intro k best hk hb2 h1
    rw [lb]
    exact ⟨by omega, fun t ht => h1 t (by omega)⟩
  | succ d ih =>
    intro k best hk hb2 h1
    have hneg : ¬ 0 ≤ dv w a (b - a) k best ↔ RR false w a (b - a) k best := by
      rw [← dv_neg h hab hb, dv_RR h hab hb]
    rw [lb]
    by_cases e : 0 ≤ dv w a (b - a) k best
    · rw [if_pos e]
      refine ih (k + 1) best (by omega) (by omega) (fun t ht => ?_)
      by_cases e2 : t = k
      · rw [e2]; exact fun hh => (hneg.mpr hh) e
      · exact h1 t (by omega)
    · rw [if_neg e]
      have hr := hneg.mp e
      refine ih (k + 1) k (by omega) (by omega) (fun t ht hh => ?_)
      by_cases e2 : t = k
      · rw [e2] at hh; exact RR_asym hh hh
      · exact h1 t (by omega) (RR_trans hh hr)
theorem least_nk {n : Nat} {w : Nat → Nat} {f : Nat → Int32} (h : Rp n w f) {a b L : Nat} (hab : a < b) (hb : b ≤ n) (hL : 1 ≤ L) (hL8 : L ≤ 8) (hm : b - a ≤ 8) (hw : ∀ k, a ≤ k → k < b → w k < L) : isNk (dg L (b - a) (pv L (fun k => w (a + (lb w a (b - a) (b - a - 1) 1 0 + k) % (b - a))) (b - a))) (b - a) := by
  obtain ⟨m1, m2⟩ := lb_min h hab hb (b - a - 1) 1 0 (by omega) (by omega) (fun t ht hh => by
    have : t = 0 := by omega
    rw [this] at hh
    exact RR_asym hh hh)
  generalize lb w a (b - a) (b - a - 1) 1 0 = s at m1 m2
  have hlt : ∀ k, k < b - a → (fun k => w (a + (s + k) % (b - a))) k < L := fun k hk => by
    have : (s + k) % (b - a) < b - a := Nat.mod_lt _ (by omega)
    exact hw _ (by omega) (by omega)
  have hdg := pv_dg (f := fun k => w (a + (s + k) % (b - a))) hL (b - a) hlt
  have hR := dg_Rp (x := pv L (fun k => w (a + (s + k) % (b - a))) (b - a)) hL hL8 hm
  generalize pv L (fun k => w (a + (s + k) % (b - a))) (b - a) = x at hdg hR
  intro j j1 j2 hh
  have hh2 := (dv_pos hR (a := 0) (b := b - a) (s := 0) (t := j) (by omega) (Nat.le_refl _)).mp (by rw [Nat.sub_zero]; exact hh)
  obtain ⟨k, k1, k2, k3⟩ := hh2
  simp only [Nat.sub_zero, Nat.zero_add, Nat.add_zero] at k1 k2 k3
  refine m2 ((s + j) % (b - a)) (Nat.mod_lt _ (by omega)) ⟨k, k1, fun i hi => ?_, ?_⟩
  · have h1 := k2 i hi
    have m3 : (i + j) % (b - a) < b - a := Nat.mod_lt _ (by omega)
    rw [Nat.mod_eq_of_lt (show i < b - a by omega), hdg i (by omega), hdg _ m3] at h1
    rw [uu_mod2]
    unfold uu
    rw [Nat.add_mod_mod] at h1
    rw [show s + j + i = s + (i + j) by omega]
    exact h1.symm
  · have m3 : (k + j) % (b - a) < b - a := Nat.mod_lt _ (by omega)
    rw [Nat.mod_eq_of_lt k1, hdg k k1, hdg _ m3] at k3
    rw [uu_mod2]
    unfold uu
    simp only [ltR]
    rw [Nat.add_mod_mod] at k3
    rw [show s + j + k = s + (k + j) by omega]
    exact k3
