/-! printed by p77.py: ranges of what is noted -/
theorem q6_b {t : Nat → Int} {L p : Int} (h0 : 0 ≤ p) (h : p ≤ L) : 0 ≤ q6 t L p ∧ q6 t L p ≤ L := by
  have b0 := te0 (t := t) h0 h
  have b1 := te0 (t := t) b0.1 b0.2
  have b2 := te0 (t := t) b1.1 b1.2
  have b3 := te0 (t := t) b2.1 b2.2
  have b4 := te0 (t := t) b3.1 b3.2
  have d5 : 0 ≤ q5 t L p ∧ q5 t L p ≤ L := by unfold q5 q3; split <;> omega
  exact te0 d5.1 d5.2
theorem lnP_r {t : Nat → Int} {L : Int} (hL : 0 ≤ L) : ∀ i, 0 ≤ lnP t L i ∧ lnP t L i ≤ L
  | 0 => ⟨Int.le_refl 0, hL⟩
  | i + 1 => by
    have ih := lnP_r (t := t) hL i
    exact q6_b ih.1 ih.2
theorem mu10_r {t : Nat → Int} {L : Int} (hL : 0 ≤ L) : ∀ i, -1 ≤ mu10 t L i ∧ mu10 t L i ≤ L
  | 0 => by show (-1 : Int) ≤ -1 ∧ (-1 : Int) ≤ L; omega
  | i + 1 => by
    have ih := mu10_r (t := t) hL i
    have p := lnP_r (t := t) hL i
    have b0 := te0 (t := t) p.1 p.2
    have b1 := te0 (t := t) b0.1 b0.2
    have b2 := te0 (t := t) b1.1 b1.2
    have s1 := tS_r t p.2
    have s2 : q3 t L (lnP t L i) ≤ tS t L (q3 t L (lnP t L i)) ∧ tS t L (q3 t L (lnP t L i)) ≤ L := tS_r t b2.2
    have s3 : 0 ≤ q3 t L (lnP t L i) := b2.1
    unfold mu10
    split
    · omega
    · split <;> omega
theorem mu_0 {t : Nat → Int} {L : Int} : ∀ i, mu9 t L i = 0 → mu10 t L i = -1 ∧ i ≤ 16
  | 0, _ => ⟨rfl, by omega⟩
  | i + 1, h => by
    unfold mu9 at h
    by_cases a : mu9 t L i = 0 ∧ 16 < (i : Int) + 1
    · rw [if_pos a] at h
      rw [if_neg (fun z => absurd z.1 (by decide))] at h
      exact absurd h (by decide)
    · rw [if_neg a] at h
      by_cases b : mu9 t L i = 0 ∧ lBad (yA t L i) (yW t L i)
      · rw [if_pos b] at h; exact absurd h (by decide)
      · rw [if_neg b] at h
        have ih := mu_0 i h
        refine ⟨?_, by omega⟩
        unfold mu10
        rw [if_neg a, if_neg b, if_neg a]
        exact ih.1
