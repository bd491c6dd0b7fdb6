/-! printed by p73.py: one letter -/
theorem oneF : ∀ x : Fin 256, cons (q_l2i (x.val : Int)) = (if lcode (q_i2c (x.val : Int)) < 4 then 0 else lcode (q_i2c (x.val : Int)) - 4 + 1) := by decide +kernel
theorem one_b {b : Int} (hb : 0 ≤ b ∧ b < 256) : cons (q_l2i b) = (if lcode (q_i2c b) < 4 then 0 else lcode (q_i2c b) - 4 + 1) := by
  have := oneF ⟨b.toNat, by omega⟩
  have e : ((b.toNat : Nat) : Int) = b := by omega
  rw [show (((⟨b.toNat, by omega⟩ : Fin 256).val : Int)) = b from e] at this
  exact this
def tC0 (t : Nat → Int) (L p : Int) : Int := if tC t L p = -1 then 0 else tC t L p
theorem one_y {t : Nat → Int} {L p : Int} (hp : p ≤ L) (h : tM t L p = 2) (hw : tW t L p < 256) : cons (q_l2i (tW t L p)) = tC0 t L p := by
  have d := tM_d h
  have er := (tE_r t hp)
  have lo := tM_lo h
  have lt1 := er.2 lo.1
  have k1 := tM_2.mp h
  by_cases q : tE t L p - tS t L p ≤ 8
  · rw [tW_e h q] at hw ⊢
    by_cases n1 : tE t L p - tS t L p = 1
    · have d0 := d 0 (by omega)
      have e0 : tS t L p + ((0 : Nat) : Int) = tS t L p := by omega
      rw [e0] at d0
      have e : df (fun j => sB t L (tS t L p + (j : Int))) (tE t L p - tS t L p).toNat = sB t L (tS t L p) := by
        rw [show (tE t L p - tS t L p).toNat = 1 by omega]
        show (0 : Int) * 256 + sB t L (tS t L p + ((0 : Nat) : Int)) = _
        rw [e0]; omega
      rw [e, one_b (by omega)]
      have tc : tC t L p = (if lcode (q_i2c (sB t L (tS t L p))) < 4 then -1 else lcode (q_i2c (sB t L (tS t L p))) - 4 + 1) := by
        unfold tC
        rw [if_pos (show tK t L p = 1 ∧ tE t L p - tS t L p = 1 from ⟨k1, n1⟩)]
      unfold tC0
      rw [tc]
      by_cases w : lcode (q_i2c (sB t L (tS t L p))) < 4
      · rw [if_pos w, if_pos w, if_pos rfl]
      · rw [if_neg w, if_neg w, if_neg (by omega)]
    · exfalso
      obtain ⟨n, hn⟩ : ∃ n : Nat, (tE t L p - tS t L p).toNat = n + 2 := ⟨(tE t L p - tS t L p).toNat - 2, by omega⟩
      rw [hn] at hw
      have d' : ∀ j, j < n + 2 → 1 ≤ sB t L (tS t L p + (j : Int)) ∧ sB t L (tS t L p + (j : Int)) ≤ 127 := fun j hj => by have := d j (by omega); omega
      have a := (df_0 (a := fun j => sB t L (tS t L p + (j : Int))) (n + 1) (fun j hj => d' j (by omega))).2 (by omega)
      have b := d' (n + 1) (by omega)
      have hw2 : df (fun j => sB t L (tS t L p + (j : Int))) (n + 1) * 256 + sB t L (tS t L p + ((n + 1 : Nat) : Int)) < 256 := hw
      omega
  · have e : tW t L p = 0 := by unfold tW; rw [if_pos h, if_pos (by omega)]
    rw [e]
    have tc : tC t L p = -1 := by
      unfold tC
      rw [if_neg (show ¬ (tK t L p = 1 ∧ tE t L p - tS t L p = 1) from fun z => by omega)]
    unfold tC0
    rw [if_pos tc]
    decide
theorem one_n {t : Nat → Int} {L p : Int} (hp : p ≤ L) (h : ¬ (tM t L p = 2 ∧ tW t L p < 256)) : tC0 t L p = 0 := by
  unfold tC0
  by_cases q : tC t L p = -1
  · rw [if_pos q]
  · exfalso
    have z : tK t L p = 1 ∧ tE t L p - tS t L p = 1 := by
      by_cases w : tK t L p = 1 ∧ tE t L p - tS t L p = 1
      · exact w
      · exact absurd (by unfold tC; rw [if_neg w]) q
    have m2 := tM_2.mpr z.1
    apply h
    refine ⟨m2, ?_⟩
    have d0 := tM_d m2 0 (by omega)
    rw [tW_e m2 (by omega), z.2]
    show (0 : Int) * 256 + sB t L (tS t L p + ((0 : Nat) : Int)) < 256
    omega

theorem l2i_r (x : Int) : qr (q_l2i x) := by
  unfold q_l2i
  exact ⟨Int32.le_toInt _, Int.le_of_lt_add_one (Int32.toInt_lt _)⟩

set_option maxRecDepth 100000 in
theorem m_oneL (u : qU) (m y : qM) (t : Nat → Int) (L p : Int) (hp : p ≤ L) (hm : m 77 44 = tM t L p) (hy : y 77 46 = tW t L p) : qCt YX12_oneLetter 2 0 0 [qR 77] (qLy u, m, y) (fun r h => r = some (qI (tC0 t L p)) ∧ h = (qLy u, m, y)) := by
  refine qCt.intro okX12_oneLetter (Nat.le_of_ble_eq_true rfl) (fun κ hκ => ?_)
  have wr := tW_r (t := t) (L := L) (p := p)
  rw [← hy] at wr
  have mr : 0 ≤ m 77 44 ∧ m 77 44 ≤ 3 := by rw [hm]; unfold tM; split; omega; split; omega; split <;> omega
  have lc := lcmp_r (x := y 77 46) (y := 256) wr (by omega)
  have lq : (q_lcmp (y 77 46) 256 = -1 ∧ y 77 46 < 256) ∨ ((q_lcmp (y 77 46) 256 = 0 ∨ q_lcmp (y 77 46) 256 = 1) ∧ ¬ y 77 46 < 256) := by rw [lc]; split; (right; omega); split; (right; omega); (left; omega)
  have l2 : qr (q_l2i (y 77 46)) := l2i_r _
  show qJ YX12_oneLetter κ _ (qLy u, m, y) 0 0 0 [some (qR 77)] []
  refine qJ.run hκ 3 (pc' := 5) (ls' := [some (qR 77)]) (st' := [qI 2, qI (m 77 44)]) rfl ?_
  refine qJ.icmp_ne hκ (tgt := 30) rfl rfl (by omega) (by omega) (fun c5 => ?_) (fun c5 => ?_)
  · show qJ YX12_oneLetter κ _ (qLy u, m, y) 0 0 30 [some (qR 77)] []
    refine qJ.run hκ 1 (pc' := 31) (ls' := [some (qR 77)]) (st' := [qI 0]) rfl ?_
    exact qJ.iret hκ rfl rfl (by decide) (by decide) (⟨by rw [one_n hp (fun z => by rw [← hm, ← hy] at z; omega)], rfl⟩)
  · show qJ YX12_oneLetter κ _ (qLy u, m, y) 0 0 8 [some (qR 77)] []
    refine qJ.run hκ 2 (pc' := 12) (ls' := [some (qR 77)]) (st' := [qL (y 77 46)]) rfl ?_
    refine qJ.ldc2 hκ rfl (z := 256) (qT_t8 13 rfl rfl) (by decide +kernel) ?_
    show qJ YX12_oneLetter κ _ (qLy u, m, y) 0 0 15 [some (qR 77)] [qL 256, qL (y 77 46)]
    refine qJ.run hκ 1 (pc' := 16) (ls' := [some (qR 77)]) (st' := [qI (q_lcmp (y 77 46) 256)]) rfl ?_
    refine qJ.if_ge hκ (tgt := 30) rfl rfl (by omega) (fun c16 => ?_) (fun c16 => ?_)
    · show qJ YX12_oneLetter κ _ (qLy u, m, y) 0 0 30 [some (qR 77)] []
      refine qJ.run hκ 1 (pc' := 31) (ls' := [some (qR 77)]) (st' := [qI 0]) rfl ?_
      exact qJ.iret hκ rfl rfl (by decide) (by decide) (⟨by rw [one_n hp (fun z => by rw [← hm, ← hy] at z; omega)], rfl⟩)
    · show qJ YX12_oneLetter κ _ (qLy u, m, y) 0 0 19 [some (qR 77)] []
      refine qJ.run hκ 3 (pc' := 24) (ls' := [some (qR 77)]) (st' := [qI (q_l2i (y 77 46))]) rfl ?_
      refine qJ.callS (As := [qI (q_l2i (y 77 46))]) (rest := []) hκ rfl kX12_258 (m_cons u m y (q_l2i (y 77 46)) (by omega)) (by decide) rfl rfl (Nat.le_of_ble_eq_true rfl) (Nat.le_of_ble_eq_true rfl) (Nat.le_of_ble_eq_true rfl) (Or.inl (fun r h' e => by obtain ⟨rfl, rfl⟩ := e; rfl)) (fun r h' e => ?_)
      obtain ⟨rfl, rfl⟩ := e
      show qJ YX12_oneLetter κ _ (qLy u, m, y) 0 0 27 [some (qR 77)] [qI (cons (q_l2i (y 77 46)))]
      refine qJ.run hκ 1 (pc' := 31) (ls' := [some (qR 77)]) (st' := [qI (cons (q_l2i (y 77 46)))]) rfl ?_
      exact qJ.iret hκ rfl rfl (by decide) (by decide) (⟨by rw [hy, one_y hp (by rw [← hm]; omega) (by rw [← hy]; omega)], rfl⟩)
