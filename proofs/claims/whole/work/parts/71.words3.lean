/-! printed by p71.py: a word of the model is a word of the class -/
theorem sk_all {P : Int → Prop} [DecidablePred P] : ∀ (k : Nat) (p q : Int), p ≤ q → q < sk P k p → P q
  | 0, p, q, h, h2 => by
    have h3 : q < p := h2
    omega
  | k + 1, p, q, h, h2 => by
    have h3 : q < (if P p then sk P k (p + 1) else p) := h2
    by_cases e : P p
    · rw [if_pos e] at h3
      by_cases w : q = p
      · subst w; exact e
      · exact sk_all k (p + 1) q (by omega) h3
    · rw [if_neg e] at h3; omega
theorem tM_2 {t : Nat → Int} {L p : Int} : tM t L p = 2 ↔ tK t L p = 1 := by
  unfold tM tK
  by_cases a : ¬ tS t L p < L
  · rw [if_pos a, if_pos a]; exact ⟨fun z => absurd z (by decide), fun z => absurd z (by decide)⟩
  · rw [if_neg a, if_neg a]
    by_cases b : tLo t L (tS t L p)
    · rw [if_pos b, if_pos b]; exact ⟨fun _ => rfl, fun _ => rfl⟩
    · rw [if_neg b, if_neg b]
      by_cases c : sB t L (tS t L p) = 58 ∨ sB t L (tS t L p) = 59
      · rw [if_pos c, if_pos c]; exact ⟨fun z => absurd z (by decide), fun z => absurd z (by decide)⟩
      · rw [if_neg c, if_neg c]; exact ⟨fun z => absurd z (by decide), fun z => absurd z (by decide)⟩
theorem tM_lo {t : Nat → Int} {L p : Int} (h : tM t L p = 2) : tS t L p < L ∧ tLo t L (tS t L p) ∧ tE t L p = sk (tLo t L) (L - tS t L p).toNat (tS t L p) := by
  unfold tM at h
  by_cases a : ¬ tS t L p < L
  · rw [if_pos a] at h; exact absurd h (by decide)
  · rw [if_neg a] at h
    by_cases b : tLo t L (tS t L p)
    · refine ⟨by omega, b, ?_⟩
      unfold tE
      rw [if_neg a, if_pos b]
    · rw [if_neg b] at h
      by_cases c : sB t L (tS t L p) = 58 ∨ sB t L (tS t L p) = 59
      · rw [if_pos c] at h; exact absurd h (by decide)
      · rw [if_neg c] at h; exact absurd h (by decide)
theorem tM_d {t : Nat → Int} {L p : Int} (h : tM t L p = 2) : ∀ j : Nat, (j : Int) < tE t L p - tS t L p → 97 ≤ sB t L (tS t L p + (j : Int)) ∧ sB t L (tS t L p + (j : Int)) ≤ 122 := by
  intro j hj
  obtain ⟨h1, h2, h3⟩ := tM_lo h
  exact sk_all (P := tLo t L) (L - tS t L p).toNat (tS t L p) (tS t L p + (j : Int)) (by omega) (by rw [← h3]; omega)
theorem tW_e {t : Nat → Int} {L p : Int} (h : tM t L p = 2) (h8 : tE t L p - tS t L p ≤ 8) : tW t L p = df (fun j => sB t L (tS t L p + (j : Int))) (tE t L p - tS t L p).toNat := by
  have d := tM_d h
  unfold tW
  rw [if_pos h, if_neg (by omega), wf_df _ (by omega) (fun j hj => by have := d j (by omega); omega)]
theorem tW_is {i N : Nat} (hN : 1 ≤ N ∧ N ≤ 8) (hd : ∀ j, j < N → 1 ≤ qB i j ∧ qB i j ≤ 127) {t : Nat → Int} {L p : Int} (hp : p ≤ L) : tIs i N t L p ↔ tM t L p = 2 ∧ tW t L p = df (qB i) N := by
  have er := (tE_r t hp).1
  constructor
  · rintro ⟨a, b, c⟩
    have m2 := tM_2.mpr a
    refine ⟨m2, ?_⟩
    rw [tW_e m2 (by omega)]
    have d := tM_d m2
    refine (df_inj _ _ (fun j hj => by have := d j (by omega); show 1 ≤ sB t L _ ∧ sB t L _ ≤ 127; omega) hd).mpr ⟨by omega, fun j hj => ?_⟩
    exact Decidable.not_not.mp ((q_cnt_no _).mp c j (by omega))
  · rintro ⟨m2, a⟩
    have d := tM_d m2
    have c0 := (df_0 N hd).2 (by omega)
    by_cases q : tE t L p - tS t L p ≤ 8
    · rw [tW_e m2 q] at a
      obtain ⟨b1, b2⟩ := (df_inj _ _ (fun j hj => by have := d j (by omega); show 1 ≤ sB t L _ ∧ sB t L _ ≤ 127; omega) hd).mp a
      refine ⟨tM_2.mp m2, by omega, (q_cnt_no _).mpr fun j hj z => z (b2 j (by omega))⟩
    · exfalso
      unfold tW at a
      rw [if_pos m2, if_pos (by omega)] at a
      omega
