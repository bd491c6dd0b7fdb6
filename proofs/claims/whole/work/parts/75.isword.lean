/-! printed by p75.py: isWord at a token -/
theorem wc_1 : df (qB 1) 4 = 1869636974 := by decide +kernel
theorem wd_1 : ∀ j, j < 4 → 1 ≤ qB 1 j ∧ qB 1 j ≤ 127 := by decide +kernel
theorem m_isW1 (u : qU) (m y : qM) (t : Nat → Int) (L p : Int) (hS : tokS t L m y p) : qCt YX12_isWord 1 0 0 [qR 77, qL 1869636974] (qLy u, m, y) (fun r h => ∃ z : Int, r = some (qI z) ∧ (z = 1 ∧ tIs 1 4 t L p ∨ z = 0 ∧ ¬ tIs 1 4 t L p) ∧ h = (qLy u, m, y)) := by
  obtain ⟨⟨s1, s2, s3, s4, s5⟩, ⟨s6, s7⟩, s8, hL, hb⟩ := hS
  have wr := tW_r (t := t) (L := L) (p := p)
  have mr := (tM_r (t := t) (L := L) (p := p)).1
  refine (m_isWord u m y 1869636974 (by rw [s5]; exact wr) (by rw [s3]; exact mr) (by decide)).weak ?_
  rintro r h ⟨z, e1, e2, e3⟩
  have ti := tW_is (i := 1) (N := 4) (by decide) wd_1 (t := t) s8.2
  rw [wc_1, ← s3, ← s5] at ti
  refine ⟨z, e1, ?_, e3⟩
  rcases e2 with ⟨a, b⟩ | ⟨a, b⟩
  · exact Or.inl ⟨a, ti.mpr b⟩
  · exact Or.inr ⟨a, fun q => b (ti.mp q)⟩

theorem wc_2 : df (qB 2) 7 = 27985274398336370 := by decide +kernel
theorem wd_2 : ∀ j, j < 7 → 1 ≤ qB 2 j ∧ qB 2 j ≤ 127 := by decide +kernel
theorem m_isW2 (u : qU) (m y : qM) (t : Nat → Int) (L p : Int) (hS : tokS t L m y p) : qCt YX12_isWord 1 0 0 [qR 77, qL 27985274398336370] (qLy u, m, y) (fun r h => ∃ z : Int, r = some (qI z) ∧ (z = 1 ∧ tIs 2 7 t L p ∨ z = 0 ∧ ¬ tIs 2 7 t L p) ∧ h = (qLy u, m, y)) := by
  obtain ⟨⟨s1, s2, s3, s4, s5⟩, ⟨s6, s7⟩, s8, hL, hb⟩ := hS
  have wr := tW_r (t := t) (L := L) (p := p)
  have mr := (tM_r (t := t) (L := L) (p := p)).1
  refine (m_isWord u m y 27985274398336370 (by rw [s5]; exact wr) (by rw [s3]; exact mr) (by decide)).weak ?_
  rintro r h ⟨z, e1, e2, e3⟩
  have ti := tW_is (i := 2) (N := 7) (by decide) wd_2 (t := t) s8.2
  rw [wc_2, ← s3, ← s5] at ti
  refine ⟨z, e1, ?_, e3⟩
  rcases e2 with ⟨a, b⟩ | ⟨a, b⟩
  · exact Or.inl ⟨a, ti.mpr b⟩
  · exact Or.inr ⟨a, fun q => b (ti.mp q)⟩

theorem wc_3 : df (qB 3) 3 = 6647396 := by decide +kernel
theorem wd_3 : ∀ j, j < 3 → 1 ≤ qB 3 j ∧ qB 3 j ≤ 127 := by decide +kernel
theorem m_isW3 (u : qU) (m y : qM) (t : Nat → Int) (L p : Int) (hS : tokS t L m y p) : qCt YX12_isWord 1 0 0 [qR 77, qL 6647396] (qLy u, m, y) (fun r h => ∃ z : Int, r = some (qI z) ∧ (z = 1 ∧ tIs 3 3 t L p ∨ z = 0 ∧ ¬ tIs 3 3 t L p) ∧ h = (qLy u, m, y)) := by
  obtain ⟨⟨s1, s2, s3, s4, s5⟩, ⟨s6, s7⟩, s8, hL, hb⟩ := hS
  have wr := tW_r (t := t) (L := L) (p := p)
  have mr := (tM_r (t := t) (L := L) (p := p)).1
  refine (m_isWord u m y 6647396 (by rw [s5]; exact wr) (by rw [s3]; exact mr) (by decide)).weak ?_
  rintro r h ⟨z, e1, e2, e3⟩
  have ti := tW_is (i := 3) (N := 3) (by decide) wd_3 (t := t) s8.2
  rw [wc_3, ← s3, ← s5] at ti
  refine ⟨z, e1, ?_, e3⟩
  rcases e2 with ⟨a, b⟩ | ⟨a, b⟩
  · exact Or.inl ⟨a, ti.mpr b⟩
  · exact Or.inr ⟨a, fun q => b (ti.mp q)⟩

theorem wc_4 : df (qB 4) 4 = 1685221232 := by decide +kernel
theorem wd_4 : ∀ j, j < 4 → 1 ≤ qB 4 j ∧ qB 4 j ≤ 127 := by decide +kernel
theorem m_isW4 (u : qU) (m y : qM) (t : Nat → Int) (L p : Int) (hS : tokS t L m y p) : qCt YX12_isWord 1 0 0 [qR 77, qL 1685221232] (qLy u, m, y) (fun r h => ∃ z : Int, r = some (qI z) ∧ (z = 1 ∧ tIs 4 4 t L p ∨ z = 0 ∧ ¬ tIs 4 4 t L p) ∧ h = (qLy u, m, y)) := by
  obtain ⟨⟨s1, s2, s3, s4, s5⟩, ⟨s6, s7⟩, s8, hL, hb⟩ := hS
  have wr := tW_r (t := t) (L := L) (p := p)
  have mr := (tM_r (t := t) (L := L) (p := p)).1
  refine (m_isWord u m y 1685221232 (by rw [s5]; exact wr) (by rw [s3]; exact mr) (by decide)).weak ?_
  rintro r h ⟨z, e1, e2, e3⟩
  have ti := tW_is (i := 4) (N := 4) (by decide) wd_4 (t := t) s8.2
  rw [wc_4, ← s3, ← s5] at ti
  refine ⟨z, e1, ?_, e3⟩
  rcases e2 with ⟨a, b⟩ | ⟨a, b⟩
  · exact Or.inl ⟨a, ti.mpr b⟩
  · exact Or.inr ⟨a, fun q => b (ti.mp q)⟩

theorem wc_5 : df (qB 5) 4 = 1701013615 := by decide +kernel
theorem wd_5 : ∀ j, j < 4 → 1 ≤ qB 5 j ∧ qB 5 j ≤ 127 := by decide +kernel
theorem m_isW5 (u : qU) (m y : qM) (t : Nat → Int) (L p : Int) (hS : tokS t L m y p) : qCt YX12_isWord 1 0 0 [qR 77, qL 1701013615] (qLy u, m, y) (fun r h => ∃ z : Int, r = some (qI z) ∧ (z = 1 ∧ tIs 5 4 t L p ∨ z = 0 ∧ ¬ tIs 5 4 t L p) ∧ h = (qLy u, m, y)) := by
  obtain ⟨⟨s1, s2, s3, s4, s5⟩, ⟨s6, s7⟩, s8, hL, hb⟩ := hS
  have wr := tW_r (t := t) (L := L) (p := p)
  have mr := (tM_r (t := t) (L := L) (p := p)).1
  refine (m_isWord u m y 1701013615 (by rw [s5]; exact wr) (by rw [s3]; exact mr) (by decide)).weak ?_
  rintro r h ⟨z, e1, e2, e3⟩
  have ti := tW_is (i := 5) (N := 4) (by decide) wd_5 (t := t) s8.2
  rw [wc_5, ← s3, ← s5] at ti
  refine ⟨z, e1, ?_, e3⟩
  rcases e2 with ⟨a, b⟩ | ⟨a, b⟩
  · exact Or.inl ⟨a, ti.mpr b⟩
  · exact Or.inr ⟨a, fun q => b (ti.mp q)⟩

theorem wc_6 : df (qB 6) 4 = 1818325876 := by decide +kernel
theorem wd_6 : ∀ j, j < 4 → 1 ≤ qB 6 j ∧ qB 6 j ≤ 127 := by decide +kernel
theorem m_isW6 (u : qU) (m y : qM) (t : Nat → Int) (L p : Int) (hS : tokS t L m y p) : qCt YX12_isWord 1 0 0 [qR 77, qL 1818325876] (qLy u, m, y) (fun r h => ∃ z : Int, r = some (qI z) ∧ (z = 1 ∧ tIs 6 4 t L p ∨ z = 0 ∧ ¬ tIs 6 4 t L p) ∧ h = (qLy u, m, y)) := by
  obtain ⟨⟨s1, s2, s3, s4, s5⟩, ⟨s6, s7⟩, s8, hL, hb⟩ := hS
  have wr := tW_r (t := t) (L := L) (p := p)
  have mr := (tM_r (t := t) (L := L) (p := p)).1
  refine (m_isWord u m y 1818325876 (by rw [s5]; exact wr) (by rw [s3]; exact mr) (by decide)).weak ?_
  rintro r h ⟨z, e1, e2, e3⟩
  have ti := tW_is (i := 6) (N := 4) (by decide) wd_6 (t := t) s8.2
  rw [wc_6, ← s3, ← s5] at ti
  refine ⟨z, e1, ?_, e3⟩
  rcases e2 with ⟨a, b⟩ | ⟨a, b⟩
  · exact Or.inl ⟨a, ti.mpr b⟩
  · exact Or.inr ⟨a, fun q => b (ti.mp q)⟩

theorem wc_7 : df (qB 7) 2 = 24947 := by decide +kernel
theorem wd_7 : ∀ j, j < 2 → 1 ≤ qB 7 j ∧ qB 7 j ≤ 127 := by decide +kernel
theorem m_isW7 (u : qU) (m y : qM) (t : Nat → Int) (L p : Int) (hS : tokS t L m y p) : qCt YX12_isWord 1 0 0 [qR 77, qL 24947] (qLy u, m, y) (fun r h => ∃ z : Int, r = some (qI z) ∧ (z = 1 ∧ tIs 7 2 t L p ∨ z = 0 ∧ ¬ tIs 7 2 t L p) ∧ h = (qLy u, m, y)) := by
  obtain ⟨⟨s1, s2, s3, s4, s5⟩, ⟨s6, s7⟩, s8, hL, hb⟩ := hS
  have wr := tW_r (t := t) (L := L) (p := p)
  have mr := (tM_r (t := t) (L := L) (p := p)).1
  refine (m_isWord u m y 24947 (by rw [s5]; exact wr) (by rw [s3]; exact mr) (by decide)).weak ?_
  rintro r h ⟨z, e1, e2, e3⟩
  have ti := tW_is (i := 7) (N := 2) (by decide) wd_7 (t := t) s8.2
  rw [wc_7, ← s3, ← s5] at ti
  refine ⟨z, e1, ?_, e3⟩
  rcases e2 with ⟨a, b⟩ | ⟨a, b⟩
  · exact Or.inl ⟨a, ti.mpr b⟩
  · exact Or.inr ⟨a, fun q => b (ti.mp q)⟩
