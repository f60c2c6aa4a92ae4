/-! runs -/
noncomputable def rE (w : Nat → Nat) (n s p : Nat) : Nat := s + p + lf (fun k => w (s + k) ≠ w (s + p + k)) 0 (n - (s + p))
theorem rE_spec {w : Nat → Nat} {n s p : Nat} (h : s + p ≤ n) : s + p ≤ rE w n s p ∧ rE w n s p ≤ n ∧ per w s (rE w n s p) p ∧ (rE w n s p < n → w (rE w n s p - p) ≠ w (rE w n s p)) := by
  obtain ⟨h1, h2, h3, h4⟩ := lf_spec (fun k => w (s + k) ≠ w (s + p + k)) (n - (s + p)) 0
  unfold rE
  generalize lf (fun k => w (s + k) ≠ w (s + p + k)) 0 (n - (s + p)) = l at h1 h2 h3 h4
  refine ⟨by omega, by omega, fun k g1 g2 => ?_, fun g => ?_⟩
  · have := Classical.byContradiction (h3 (k - s) (by omega) (by omega))
    rw [show s + (k - s) = k by omega, show s + p + (k - s) = k + p by omega] at this
    exact this
  · have := h4 (by omega)
    rw [show s + p + l - p = s + l by omega]
    exact this
theorem rE_ge {w : Nat → Nat} {n s p e : Nat} (h1 : s + p ≤ e) (h2 : e ≤ n) (h3 : per w s e p) : e ≤ rE w n s p := by
  obtain ⟨g1, g2, g3, g4⟩ := rE_spec (w := w) (n := n) (s := s) (p := p) (by omega)
  rcases Nat.lt_or_ge (rE w n s p) e with h | h
  · have h5 := g4 (by omega)
    have h6 := h3 (rE w n s p - p) (by omega) (by omega)
    rw [show rE w n s p - p + p = rE w n s p by omega] at h6
    exact absurd h6 h5
  · exact h
def isR (w : Nat → Nat) (n s p : Nat) : Prop := 1 ≤ p ∧ s + 2 * p ≤ n ∧ s + 2 * p ≤ rE w n s p ∧ ¬ (0 < s ∧ w (s - 1) = w (s - 1 + p)) ∧ lp w s (rE w n s p) = p
theorem per_sub {w : Nat → Nat} {a b c e p : Nat} (h : per w a b p) (h1 : a ≤ c) (h2 : e ≤ b) : per w c e p := fun k g1 g2 => h k (by omega) (by omega)
theorem per_mulc {w : Nat → Nat} {a b p : Nat} (h : per w a b p) : ∀ c k, a ≤ k → k + p * c < b → w k = w (k + p * c) := by
  intro c
  induction c with
  | zero => intro k h1 h2; rfl
  | succ c ih =>
    intro k h1 h2
    rw [Nat.mul_succ] at h2 ⊢
    rw [ih k h1 (by omega), h (k + p * c) (by omega) (by omega), Nat.add_assoc]
theorem per_mod {w : Nat → Nat} {a b p x y : Nat} (h : per w a b p) (hx : a ≤ x) (hxb : x < b) (hy : a ≤ y) (hyb : y < b) (he : x % p = y % p) : w x = w y := by
  have key : ∀ x y, a ≤ x → x ≤ y → y < b → x % p = y % p → w x = w y := by
    intro x y h1 h2 h3 h4
    have d1 := Nat.div_add_mod x p
    have d2 := Nat.div_add_mod y p
    have d3 : x / p ≤ y / p := Nat.div_le_div_right h2
    obtain ⟨c, hc⟩ : ∃ c, y / p = x / p + c := ⟨y / p - x / p, by omega⟩
    have h5 : y = x + p * c := by
      rw [hc, Nat.mul_add] at d2
      omega
    rw [h5]
    exact per_mulc h c x h1 (by omega)
  rcases Nat.le_total x y with q | q
  · exact key x y hx q hyb he
  · exact (key y x hy q hxb he.symm).symm
/-- a period of a window of two periods is one of all -/
theorem mod_into {s h k : Nat} (hh : 1 ≤ h) : ∃ x, s ≤ x ∧ x < s + h ∧ x % h = k % h := by
  refine ⟨s + (k + (h - 1) * s) % h, by omega, by have := Nat.mod_lt (k + (h - 1) * s) (show h > 0 by omega); omega, ?_⟩
  have : s + (k + (h - 1) * s) = k + h * s := by
    obtain ⟨g, rfl⟩ : ∃ g, h = g + 1 := ⟨h - 1, by omega⟩
    rw [Nat.add_sub_cancel, Nat.add_mul, Nat.one_mul]
    omega
  rw [Nat.add_mod_mod, this, Nat.add_mul_mod_self_left]
theorem per_big {w : Nat → Nat} {r e s h d : Nat} (hh : 1 ≤ h) (hp : per w r e h) (hs : r ≤ s) (hse : s + 2 * h ≤ e) (hd : d ≤ h) (hw : per w s (s + 2 * h) d) : per w r e d := by
  intro k k1 k2
  obtain ⟨x, x1, x2, x3⟩ := mod_into (s := s) (k := k) hh
  have e1 : w k = w x := per_mod hp k1 (by omega) (by omega) (by omega) x3.symm
  have e2 : w (k + d) = w (x + d) := per_mod hp (by omega) (by omega) (by omega) (by omega) (by rw [Nat.add_mod, ← x3, ← Nat.add_mod])
  rw [e1, e2]
  exact hw x x1 (by omega)
/-- the least period of all, and of a window of two periods -/
theorem lp_big {w : Nat → Nat} {r e s h : Nat} (hh : 1 ≤ h) (hp : per w r e h) (hs : r ≤ s) (hse : s + 2 * h ≤ e) : lp w r e = h ↔ lp w s (s + 2 * h) = h := by
  obtain ⟨a1, a2, a3, a4⟩ := lp_spec (w := w) (show r < e by omega)
  obtain ⟨b1, b2, b3, b4⟩ := lp_spec (w := w) (show s < s + 2 * h by omega)
  have hle1 : lp w r e ≤ h := Classical.byContradiction fun q => a4 h hh (by omega) hp
  have hle2 : lp w s (s + 2 * h) ≤ h := Classical.byContradiction fun q => b4 h hh (by omega) (per_sub hp hs hse)
  constructor
  · intro he
    have := per_big hh hp hs hse hle2 b3
    rcases Nat.lt_or_ge (lp w s (s + 2 * h)) h with q | q
    · exact absurd this (a4 _ b1 (by omega))
    · omega
  · intro he
    rcases Nat.lt_or_ge (lp w r e) h with q | q
    · exact absurd (per_sub a3 hs hse) (b4 _ a1 (by omega))
    · omega
/-- a square of a primitive word -/
def isQ (w : Nat → Nat) (n h s : Nat) : Prop := s + 2 * h ≤ n ∧ lp w s (s + 2 * h) = h
theorem isQ_per {w : Nat → Nat} {n h s : Nat} (hh : 1 ≤ h) (hq : isQ w n h s) : per w s (s + 2 * h) h := by
  have := (lp_spec (w := w) (show s < s + 2 * h by omega)).2.2.1
  rw [hq.2] at this
  exact this
theorem per_rt {w : Nat → Nat} {s h : Nat} (hh : 1 ≤ h) (hp : per w s (s + 2 * h) h) : rt w s (s + h) = h ↔ lp w s (s + 2 * h) = h := by
  obtain ⟨r1, r2, r3, r4, r5⟩ := rt_spec (w := w) (show s < s + h by omega)
  obtain ⟨b1, b2, b3, b4⟩ := lp_spec (w := w) (show s < s + 2 * h by omega)
  have hle2 : lp w s (s + 2 * h) ≤ h := Classical.byContradiction fun q => b4 h hh (by omega) hp
  rw [show s + h - s = h by omega] at r2 r3 r5
  constructor
  · intro he
    have hg := per_gcd (w := w) (a := s) (b := s + 2 * h) (lp w s (s + 2 * h) + h) (lp w s (s + 2 * h)) h rfl b1 hh (by omega) b3 hp
    have g1 : Nat.gcd (lp w s (s + 2 * h)) h ∣ h := Nat.gcd_dvd_right _ _
    have g2 : 1 ≤ Nat.gcd (lp w s (s + 2 * h)) h := Nat.gcd_pos_of_pos_right _ (by omega)
    have g3 : Nat.gcd (lp w s (s + 2 * h)) h ≤ lp w s (s + 2 * h) := Nat.le_of_dvd (by omega) (Nat.gcd_dvd_left _ _)
    have g4 : Nat.gcd (lp w s (s + 2 * h)) h = lp w s (s + 2 * h) := by
      rcases Nat.lt_or_ge (Nat.gcd (lp w s (s + 2 * h)) h) (lp w s (s + 2 * h)) with q | q
      · exact absurd hg (b4 _ g2 q)
      · omega
    rw [g4] at g1
    rcases Nat.lt_or_ge (lp w s (s + 2 * h)) h with q | q
    · exact absurd ⟨Nat.mod_eq_zero_of_dvd g1, per_sub b3 (Nat.le_refl _) (by omega)⟩ (r5 _ b1 (by omega))
    · omega
  · intro he
    rcases Nat.lt_or_ge (rt w s (s + h)) h with q | q
    · refine absurd ?_ (b4 _ r1 (by omega))
      -- the root's length is a period of the whole square
      intro k k1 k2
      obtain ⟨c, hc⟩ := Nat.dvd_of_mod_eq_zero r3
      have hmod : ∀ x, s ≤ x → x < s + 2 * h → ∃ y, s ≤ y ∧ y < s + h ∧ w x = w y ∧ y % rt w s (s + h) = x % rt w s (s + h) := by
        intro x x1 x2
        by_cases e : x < s + h
        · exact ⟨x, x1, e, rfl, rfl⟩
        · refine ⟨x - h, by omega, by omega, ?_, ?_⟩
          · have := hp (x - h) (by omega) (by omega)
            rw [show x - h + h = x by omega] at this
            exact this.symm
          · have h9 := Nat.add_mul_mod_self_left (x - h) (rt w s (s + h)) c
            rw [← hc, show x - h + h = x by omega] at h9
            exact h9.symm
      obtain ⟨y1, a1, a2, a3, a4⟩ := hmod k (by omega) (by omega)
      obtain ⟨y2, c1, c2, c3, c4⟩ := hmod (k + rt w s (s + h)) (by omega) (by omega)
      rw [a3, c3]
      exact per_mod r4 a1 a2 c1 c2 (by rw [a4, c4, Nat.add_mod_right])
    · omega
theorem isR_Q {w : Nat → Nat} {n s p : Nat} (hp1 : 1 ≤ p) : isR w n s p ↔ (isQ w n p s ∧ ¬ (0 < s ∧ isQ w n p (s - 1))) := by
  constructor
  · intro h
    obtain ⟨h1, h2, h3, h4, h5⟩ := h
    obtain ⟨e1, e2, e3, e4⟩ := rE_spec (w := w) (n := n) (s := s) (p := p) (by omega)
    refine ⟨⟨h2, (lp_big hp1 e3 (Nat.le_refl s) h3).mp h5⟩, fun hq => h4 ⟨hq.1, ?_⟩⟩
    exact isQ_per hp1 hq.2 (s - 1) (Nat.le_refl _) (by omega)
  · intro h
    obtain ⟨⟨q1, q2⟩, q3⟩ := h
    obtain ⟨e1, e2, e3, e4⟩ := rE_spec (w := w) (n := n) (s := s) (p := p) (by omega)
    have hper := isQ_per hp1 ⟨q1, q2⟩
    have hge : s + 2 * p ≤ rE w n s p := rE_ge (by omega) q1 hper
    refine ⟨hp1, q1, hge, fun hx => q3 ⟨hx.1, by omega, ?_⟩, (lp_big hp1 e3 (Nat.le_refl s) hge).mpr q2⟩
    have hper2 : per w (s - 1) (s + 2 * p) p := by
      intro k k1 k2
      by_cases e : k = s - 1
      · rw [e]; exact hx.2
      · exact hper k (by omega) k2
    have h6 := (lp_big (s := s) hp1 hper2 (by omega) (Nat.le_refl _)).mpr q2
    have h7 := (lp_big (s := s - 1) hp1 hper2 (Nat.le_refl _) (by omega)).mp h6
    exact h7
/-! fewer runs than letters: each run has a Lyndon root of its own, not at its first place -/
/-- the word [i, i+p) round and round -/
def uu (w : Nat → Nat) (i p x : Nat) : Nat := w (i + x % p)
def RR (r : Bool) (w : Nat → Nat) (i p s t : Nat) : Prop := ∃ k, k < p ∧ (∀ j, j < k → uu w i p (s + j) = uu w i p (t + j)) ∧ ltR r (uu w i p (s + k)) (uu w i p (t + k))
theorem uu_mod {w : Nat → Nat} {i p x : Nat} : uu w i p (x % p) = uu w i p x := by unfold uu; rw [Nat.mod_mod]
theorem uu_mod2 {w : Nat → Nat} {i p x j : Nat} : uu w i p (x % p + j) = uu w i p (x + j) := by unfold uu; rw [Nat.mod_add_mod]
theorem uu_p {w : Nat → Nat} {i p x : Nat} : uu w i p (x + p) = uu w i p x := by unfold uu; rw [Nat.add_mod_right]
theorem RR_trans {r : Bool} {w : Nat → Nat} {i p s t v : Nat} (h : RR r w i p s t) (h2 : RR r w i p t v) : RR r w i p s v := by
  obtain ⟨k, a1, a2, a3⟩ := h
  obtain ⟨m, b1, b2, b3⟩ := h2
  rcases Nat.lt_trichotomy k m with e | e | e
  · refine ⟨k, a1, fun x hx => (a2 x hx).trans (b2 x (by omega)), ?_⟩
    rw [← b2 k e]; exact a3
  · subst e
    exact ⟨k, a1, fun x hx => (a2 x hx).trans (b2 x hx), ltR_trans a3 b3⟩
  · refine ⟨m, b1, fun x hx => (a2 x (by omega)).trans (b2 x hx), ?_⟩
    rw [a2 m e]; exact b3
theorem RR_tot (r : Bool) {w : Nat → Nat} {i p s t : Nat} (hp : 1 ≤ p) (hr : rt w i (i + p) = p) (hs : s < p) (ht : t < s) : RR r w i p s t ∨ RR r w i p t s := by
  have hne : ¬ ∀ k, k < p → uu w i p (k + s) = uu w i p (k + t) := by
    intro hh
    have h1 := (rot_eq (w := w) (a := i) (b := i + p) (s := s) (t := t) (by omega) (by omega) (by omega)).mp (fun k hk => by
      rw [show i + p - i = p by omega] at hk ⊢
      exact hh k hk)
    rw [hr, Nat.mod_eq_of_lt (by omega)] at h1
    omega
  obtain ⟨s1, s2, s3, s4⟩ := lf_spec (fun k => uu w i p (s + k) ≠ uu w i p (t + k)) p 0
  generalize lf (fun k => uu w i p (s + k) ≠ uu w i p (t + k)) 0 p = k at s1 s2 s3 s4
  have s5 : ∀ x, x < k → uu w i p (s + x) = uu w i p (t + x) := fun x hx => Classical.byContradiction (s3 x (by omega) hx)
  by_cases e : k < p
  · have h2 := s4 (by omega)
    rcases ltR_tri r (uu w i p (s + k)) (uu w i p (t + k)) with q | q | q
    · exact Or.inl ⟨k, e, s5, q⟩
    · exact absurd q h2
    · exact Or.inr ⟨k, e, fun x hx => (s5 x hx).symm, q⟩
  · exact absurd (fun x hx => by rw [Nat.add_comm x s, Nat.add_comm x t]; exact s5 x (by omega)) hne
theorem RR_min (r : Bool) {w : Nat → Nat} {i p : Nat} (hp : 1 ≤ p) (hr : rt w i (i + p) = p) : ∀ m, 1 ≤ m → m ≤ p → ∃ s, s < m ∧ ∀ t, t < m → t ≠ s → RR r w i p s t := by
  intro m
  induction m with
  | zero => intro h1 h2; omega
  | succ m ih =>
    intro h1 h2
    by_cases e : m = 0
    · subst e
      exact ⟨0, by omega, fun t ht h => by omega⟩
    · obtain ⟨s, a1, a2⟩ := ih (by omega) (by omega)
      rcases RR_tot r hp hr (show m < p by omega) a1 with q | q
      · refine ⟨m, by omega, fun t ht h => ?_⟩
        by_cases e2 : t = s
        · rw [e2]; exact q
        · exact RR_trans q (a2 t (by omega) e2)
      · refine ⟨s, by omega, fun t ht h => ?_⟩
        by_cases e2 : t = m
        · rw [e2]; exact q
        · exact a2 t (by omega) h
theorem RR_asym {r : Bool} {w : Nat → Nat} {i p s t : Nat} (h : RR r w i p s t) (h2 : RR r w i p t s) : False := by
  obtain ⟨k, a1, a2, a3⟩ := h
  obtain ⟨m, b1, b2, b3⟩ := h2
  rcases Nat.lt_trichotomy k m with e | e | e
  · rw [b2 k e] at a3; exact ltR_irr a3
  · subst e; exact ltR_asym a3 b3
  · rw [a2 m e] at b3; exact ltR_irr b3
theorem lyndonRoot {w : Nat → Nat} {n s p : Nat} (r : Bool) (h : isR w n s p) : ∃ a, s < a ∧ a + p ≤ rE w n s p ∧ LY r w a (a + p) := by
  obtain ⟨hp, h2, h3, h4, h5⟩ := h
  obtain ⟨e1, e2, e3, e4⟩ := rE_spec (w := w) (n := n) (s := s) (p := p) (by omega)
  have hsq := (lp_big hp e3 (Nat.le_refl s) h3).mp h5
  have hper : per w s (s + 2 * p) p := per_sub e3 (Nat.le_refl _) h3
  have hrt := (per_rt hp hper).mpr hsq
  obtain ⟨t0, t1, t2⟩ := RR_min r hp hrt p hp (Nat.le_refl p)
  have huw : ∀ x, x < 2 * p → w (s + x) = uu w s p x := by
    intro x hx
    unfold uu
    by_cases e : x < p
    · rw [Nat.mod_eq_of_lt e]
    · have := hper (s + (x - p)) (by omega) (by omega)
      rw [show s + (x - p) + p = s + x by omega] at this
      rw [Nat.mod_eq_sub_mod (by omega), Nat.mod_eq_of_lt (by omega)]
      exact this.symm
  have hmin : ∀ d, 0 < d → d < p → RR r w s p t0 (t0 + d) := by
    intro d d1 d2
    have hne : (t0 + d) % p ≠ t0 := by
      intro hh
      by_cases e : t0 + d < p
      · rw [Nat.mod_eq_of_lt e] at hh; omega
      · rw [Nat.mod_eq_sub_mod (by omega), Nat.mod_eq_of_lt (by omega)] at hh; omega
    obtain ⟨k, k1, k2, k3⟩ := t2 ((t0 + d) % p) (Nat.mod_lt _ (by omega)) hne
    refine ⟨k, k1, fun j hj => ?_, ?_⟩
    · rw [k2 j hj, uu_mod2]
    · rw [uu_mod2] at k3; exact k3
  -- the place of the root, behind the first one
  obtain ⟨a0, ha0, ha1, ha2⟩ : ∃ a0, 0 < a0 ∧ a0 ≤ p ∧ ∀ j, uu w s p (a0 + j) = uu w s p (t0 + j) := by
    by_cases e : t0 = 0
    · refine ⟨p, by omega, Nat.le_refl p, fun j => ?_⟩
      rw [e, Nat.zero_add, Nat.add_comm, uu_p]
    · exact ⟨t0, by omega, by omega, fun j => rfl⟩
  refine ⟨s + a0, by omega, by omega, fun x x1 x2 => ?_⟩
  obtain ⟨d, hd⟩ : ∃ d, x = s + a0 + d := ⟨x - (s + a0), by omega⟩
  subst hd
  have hw : ∀ j, j < p → w (s + a0 + j) = uu w s p (t0 + j) := by
    intro j hj
    rw [show s + a0 + j = s + (a0 + j) by omega, huw (a0 + j) (by omega), ha2]
  obtain ⟨k, k1, k2, k3⟩ := hmin d (by omega) (by omega)
  by_cases e : d + k < p
  · refine ⟨k, by omega, fun j hj => ?_, ?_⟩
    · rw [hw j (by omega), show s + a0 + d + j = s + a0 + (d + j) by omega, hw (d + j) (by omega), k2 j hj, Nat.add_assoc]
    · rw [hw k k1, show s + a0 + d + k = s + a0 + (d + k) by omega, hw (d + k) (by omega), ← Nat.add_assoc]
      exact k3
  · -- the suffix would be a border: the other rotation is less
    exfalso
    obtain ⟨k2', hk2⟩ : ∃ k2', k = (p - d) + k2' := ⟨k - (p - d), by omega⟩
    refine RR_asym (hmin (p - d) (by omega) (by omega)) ⟨k2', by omega, fun j hj => ?_, ?_⟩
    · have := k2 ((p - d) + j) (by omega)
      rw [show t0 + d + (p - d + j) = t0 + j + p by omega, uu_p, ← Nat.add_assoc] at this
      exact this
    · rw [hk2, show t0 + d + (p - d + k2') = t0 + k2' + p by omega, uu_p, ← Nat.add_assoc] at k3
      exact k3
/-- the order in which the letter behind a run is less than the one that would go on -/
noncomputable def rO (w : Nat → Nat) (n s p : Nat) : Bool := if rE w n s p < n ∧ w (rE w n s p - p) < w (rE w n s p) then true else false
theorem rO_spec {w : Nat → Nat} {n s p : Nat} (h : s + p ≤ n) (he : rE w n s p < n) : ltR (rO w n s p) (w (rE w n s p)) (w (rE w n s p - p)) := by
  have h4 := (rE_spec h).2.2.2 he
  unfold rO
  by_cases e : w (rE w n s p - p) < w (rE w n s p)
  · rw [if_pos ⟨he, e⟩]; exact e
  · rw [if_neg (fun hh => e hh.2)]
    simp only [ltR]
    omega
noncomputable def rB (w : Nat → Nat) (n s p : Nat) : Nat := @dite _ (∃ a, s < a ∧ a + p ≤ rE w n s p ∧ LY (rO w n s p) w a (a + p)) (Classical.propDecidable _) (fun h => h.choose) (fun _ => 0)
theorem rB_spec {w : Nat → Nat} {n s p : Nat} (h : isR w n s p) : s < rB w n s p ∧ rB w n s p + p ≤ rE w n s p ∧ LY (rO w n s p) w (rB w n s p) (rB w n s p + p) := by
  have hx := lyndonRoot (rO w n s p) h
  unfold rB
  rw [dif_pos hx]
  exact hx.choose_spec
theorem root_long {w : Nat → Nat} {n s p : Nat} (h : isR w n s p) : IsLong (rO w n s p) w (rB w n s p) n p := by
  obtain ⟨b1, b2, b3⟩ := rB_spec h
  obtain ⟨hp, h2, h3, h4, h5⟩ := h
  obtain ⟨e1, e2, e3, e4⟩ := rE_spec (w := w) (n := n) (s := s) (p := p) (by omega)
  refine ⟨hp, by omega, b3, fun g g1 g2 => ?_⟩
  have hper : ∀ e, e ≤ rE w n s p → ∀ x, rB w n s p + p ≤ x → x < e → w x = w (x - p) := by
    intro e he x x1 x2
    have := e3 (x - p) (by omega) (by omega)
    rw [show x - p + p = x by omega] at this
    exact this.symm
  by_cases e : rB w n s p + g ≤ rE w n s p
  · exact noLY_per hp (by omega) (hper _ e)
  · exact noLY_less hp b2 (by omega) (hper _ (Nat.le_refl _)) (rO_spec (by omega) (by omega))
theorem same_run {w : Nat → Nat} {n s t p : Nat} (h : isR w n s p) (h2 : isR w n t p) {a : Nat} (h3 : s < a) (h4 : a + p ≤ rE w n s p) (h5 : t < a) (h6 : a + p ≤ rE w n t p) : s = t := by
  have e3 := (rE_spec (w := w) (n := n) (s := s) (p := p) (by have := h.2.1; omega)).2.2.1
  have f3 := (rE_spec (w := w) (n := n) (s := t) (p := p) (by have := h2.2.1; omega)).2.2.1
  rcases Nat.lt_trichotomy s t with q | q | q
  · exact absurd ⟨by omega, e3 (t - 1) (by omega) (by omega)⟩ h2.2.2.2.1
  · exact q
  · exact absurd ⟨by omega, f3 (s - 1) (by omega) (by omega)⟩ h.2.2.2.1
theorem one_short {w : Nat → Nat} {a p q : Nat} (hp : LY false w a (a + p)) (hq : LY true w a (a + q)) : p ≤ 1 ∨ q ≤ 1 := by
  rcases Nat.lt_or_ge 1 p with h1 | h1
  · rcases Nat.lt_or_ge 1 q with h2 | h2
    · exfalso
      obtain ⟨k, k1, k2, k3⟩ := hp (a + 1) (by omega) (by omega)
      obtain ⟨m, m1, m2, m3⟩ := hq (a + 1) (by omega) (by omega)
      simp only [ltR] at k3 m3
      rcases Nat.lt_trichotomy k m with e | e | e
      · have := m2 k e; omega
      · subst e; omega
      · have := k2 m e; omega
    · exact Or.inr h2
  · exact Or.inl h1
theorem long_end {r : Bool} {w : Nat → Nat} {a p : Nat} (h1 : 1 < p) (hp : LY r w a (a + p)) : w a ≠ w (a + p - 1) := by
  intro e
  obtain ⟨k, k1, k2, k3⟩ := hp (a + p - 1) (by omega) (by omega)
  have : k = 0 := by omega
  rw [this, Nat.add_zero, Nat.add_zero, e] at k3
  exact ltR_irr k3
theorem run_one {w : Nat → Nat} {n s p t q : Nat} (h : isR w n s p) (h2 : isR w n t q) (hb : rB w n s p = rB w n t q) : s = t ∧ p = q := by
  obtain ⟨b1, b2, b3⟩ := rB_spec h
  obtain ⟨c1, c2, c3⟩ := rB_spec h2
  have l1 := root_long h
  have l2 := root_long h2
  rw [← hb] at c1 c2 c3 l2
  have e3 := (rE_spec (w := w) (n := n) (s := s) (p := p) (by have := h.2.1; omega)).2.2.1
  have f3 := (rE_spec (w := w) (n := n) (s := t) (p := q) (by have := h2.2.1; omega)).2.2.1
  have hpq : p = q := by
    by_cases er : rO w n s p = rO w n t q
    · rw [← er] at l2
      exact l1.one l2
    · -- two orders: one of the two roots is a letter
      have hp1 := l1.1
      have hq1 := l2.1
      have hor : p ≤ 1 ∨ q ≤ 1 := by
        cases e1 : rO w n s p with
        | false =>
          cases e2 : rO w n t q with
          | false => exact absurd (e1.trans e2.symm) er
          | true =>
            rw [e1] at b3; rw [e2] at c3
            exact one_short b3 c3
        | true =>
          cases e2 : rO w n t q with
          | true => exact absurd (e1.trans e2.symm) er
          | false =>
            rw [e1] at b3; rw [e2] at c3
            exact (one_short c3 b3).symm
      rcases Nat.lt_or_ge 1 p with q1 | q1
      · have hq : q = 1 := by omega
        exfalso
        have g1 := e3 (rB w n s p - 1) (by omega) (by omega)
        have g2 := f3 (rB w n s p - 1) (by omega) (by omega)
        rw [hq, show rB w n s p - 1 + 1 = rB w n s p by omega] at g2
        rw [show rB w n s p - 1 + p = rB w n s p + p - 1 by omega] at g1
        exact long_end q1 b3 (g2.symm.trans g1)
      · rcases Nat.lt_or_ge 1 q with q2 | q2
        · have hp : p = 1 := by omega
          exfalso
          have g1 := f3 (rB w n s p - 1) (by omega) (by omega)
          have g2 := e3 (rB w n s p - 1) (by omega) (by omega)
          rw [hp, show rB w n s 1 - 1 + 1 = rB w n s 1 by rw [hp] at b1; omega] at g2
          rw [hp] at g1
          rw [show rB w n s 1 - 1 + q = rB w n s 1 + q - 1 by rw [hp] at b1; omega] at g1
          rw [hp] at c3
          exact long_end q2 c3 (g2.symm.trans g1)
        · omega
  subst hpq
  exact ⟨same_run h h2 b1 b2 c1 c2, rfl⟩
theorem rB_lt {w : Nat → Nat} {n s p : Nat} (h : isR w n s p) : 1 ≤ rB w n s p ∧ rB w n s p < n := by
  obtain ⟨b1, b2, b3⟩ := rB_spec h
  have e2 := (rE_spec (w := w) (n := n) (s := s) (p := p) (by have := h.2.1; omega)).2.1
  have := h.1
  omega

