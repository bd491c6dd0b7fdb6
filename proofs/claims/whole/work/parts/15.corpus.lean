/-! printed by p15.py: Corpus -/
/-- every word has 1 to 5 signs; its gap's place, if it has one -/
def gW (m : qM) : Prop := ∀ w : Int, 0 ≤ w → w < m 2 0 → (1 ≤ m 4 w.toNat ∧ m 4 w.toNat ≤ 5) ∧ (-1 ≤ m 5 w.toNat ∧ m 5 w.toNat < m 4 w.toNat) ∧ ∀ i : Int, 0 ≤ i → i < m 4 w.toNat → (0 ≤ m 3 (w * 5 + i).toNat ∧ m 3 (w * 5 + i).toNat ≤ 20) ∧ (m 3 (w * 5 + i).toNat = 20 ↔ i = m 5 w.toNat)
/-- two words differ at a place -/
abbrev gD (m : qM) (w v : Int) (k : Nat) : Prop := ¬ m 3 (w * 5 + (k : Int)).toNat = m 3 (v * 5 + (k : Int)).toNat
theorem gD_i {m : qM} {w v i : Int} (h : 0 ≤ i) : gD m w v i.toNat ↔ ¬ m 3 (w * 5 + i).toNat = m 3 (v * 5 + i).toNat := by
  show (¬ m 3 (w * 5 + ((i.toNat : Nat) : Int)).toNat = m 3 (v * 5 + ((i.toNat : Nat) : Int)).toNat) ↔ _
  rw [show ((i.toNat : Nat) : Int) = i by omega]
/-- the one place at which two words without a gap, of one length, differ -/
def gPA (m : qM) (w v : Int) : Int := if (m 4 w.toNat = m 4 v.toNat ∧ m 5 w.toNat = -1 ∧ m 5 v.toNat = -1) ∧ q_cnt (gD m w v) (m 4 w.toNat).toNat = 1 then q_fst (gD m w v) (m 4 w.toNat).toNat else -1
theorem gPA_r (m : qM) (w v : Int) (h : 0 ≤ m 4 w.toNat) : -1 ≤ gPA m w v ∧ (gPA m w v < m 4 w.toNat ∨ gPA m w v = -1) := by
  unfold gPA
  have := q_fst_r (gD m w v) (m 4 w.toNat).toNat
  split <;> constructor <;> omega
theorem gPA_no {m : qM} {w v : Int} (h : ¬ (m 4 w.toNat = m 4 v.toNat ∧ m 5 w.toNat = -1 ∧ m 5 v.toNat = -1)) : gPA m w v = -1 := by
  unfold gPA; rw [if_neg (fun z => h z.1)]
theorem gPA_two {m : qM} {w v i : Int} (h0 : 0 ≤ i) (hi : i < m 4 w.toNat) (hf : ¬ q_fst (gD m w v) i.toNat = -1) (hd : ¬ m 3 (w * 5 + i).toNat = m 3 (v * 5 + i).toNat) : gPA m w v = -1 := by
  unfold gPA
  rw [if_neg]
  rintro ⟨-, g⟩
  have g0 : ¬ q_cnt (gD m w v) i.toNat = 0 := fun z => hf ((q_fst_0 (gD m w v) i.toNat).mpr z)
  have g1 := q_cnt_s (p := gD m w v) h0
  rw [if_pos ((gD_i h0).mpr hd)] at g1
  have g2 := q_cnt_mono (gD m w v) (a := (i + 1).toNat) (m 4 w.toNat).toNat (by omega)
  omega
theorem gPA_end {m : qM} {w v : Int} (h : m 4 w.toNat = m 4 v.toNat ∧ m 5 w.toNat = -1 ∧ m 5 v.toNat = -1) (hc : q_cnt (gD m w v) (m 4 w.toNat).toNat ≤ 1) : gPA m w v = q_fst (gD m w v) (m 4 w.toNat).toNat := by
  unfold gPA
  by_cases h1 : q_cnt (gD m w v) (m 4 w.toNat).toNat = 1
  · rw [if_pos ⟨h, h1⟩]
  · rw [if_neg (fun z => h1 z.2), (q_fst_0 (gD m w v) (m 4 w.toNat).toNat).mpr (by omega)]

set_option maxRecDepth 100000 in
theorem c_seenWords (u : qU) (m y : qM) (hz : Int) (h0 : 0 ≤ m 2 0 ∧ m 2 0 ≤ 60) (h1 : qr hz) (h2 : ∀ k : Int, 0 ≤ k → k < m 2 0 → qr (m 7 k.toNat)) : qCt YX1_seenWords 1 0 0 [qR 2, qI hz] (qLy u, m, y) (fun r h => r = some (qI (q_pfx (m 7) hz (m 2 0).toNat : Nat)) ∧ h = (qLy u, m, y)) := by
  refine qCt.intro okX1_seenWords (Nat.le_of_ble_eq_true rfl) (fun κ hκ => ?_)
  have L2 : ∀ (n : Nat) (i : Int), (0 ≤ i) → (i ≤ m 2 0) → (q_pfx (m 7) hz i.toNat = i.toNat) → ((m 2 0 - i).toNat) < n → qJ YX1_seenWords κ (qFin (fun r h => r = some (qI (q_pfx (m 7) hz (m 2 0).toNat : Nat)) ∧ h = (qLy u, m, y)) 0 0 κ) (qLy u, m, y) 0 0 2 [some (qR 2), some (qI hz), some (qI i)] [] := by
    intro n
    induction n with
    | zero => intro i _ _ _ hz0; omega
    | succ n ih2 =>
      intro i v2_0 v2_1 v2_2 v2_m
      refine qJ.run hκ 3 (pc' := 7) (ls' := [some (qR 2), some (qI hz), some (qI i)]) (st' := [qI (m 2 0), qI i]) rfl ?_
      refine qJ.icmp_ge hκ (tgt := 26) rfl rfl (by omega) (by omega) (fun c7 => ?_) (fun c7 => ?_)
      · show qJ YX1_seenWords κ _ (qLy u, m, y) 0 0 26 [some (qR 2), some (qI hz), some (qI i)] []
        refine qJ.run hκ 1 (pc' := 27) (ls' := [some (qR 2), some (qI hz), some (qI i)]) (st' := [qI i]) rfl ?_
        exact qJ.iret hκ rfl rfl (by decide) (by decide) (by first | exact ⟨by rw [q_pfx_stop v2_2 (by omega) _ (by omega)]; congr 2; omega, rfl⟩ | exact ⟨by rw [show (m 2 0).toNat = i.toNat by omega, v2_2]; congr 2; omega, rfl⟩)
      · show qJ YX1_seenWords κ _ (qLy u, m, y) 0 0 10 [some (qR 2), some (qI hz), some (qI i)] []
        refine qJ.run hκ 3 (pc' := 15) (ls' := [some (qR 2), some (qI hz), some (qI i)]) (st' := [qI i, qR 7]) rfl ?_
        refine qJ.ald hκ rfl rfl rfl (by decide) (by omega) ?_
        show qJ YX1_seenWords κ _ (qLy u, m, y) 0 0 16 [some (qR 2), some (qI hz), some (qI i)] [qI (m 7 i.toNat)]
        refine qJ.run hκ 1 (pc' := 17) (ls' := [some (qR 2), some (qI hz), some (qI i)]) (st' := [qI hz, qI (m 7 i.toNat)]) rfl ?_
        have q1 := h2 i v2_0 c7
        refine qJ.icmp_gt hκ (tgt := 26) rfl rfl (by omega) (by omega) (fun c17 => ?_) (fun c17 => ?_)
        · show qJ YX1_seenWords κ _ (qLy u, m, y) 0 0 26 [some (qR 2), some (qI hz), some (qI i)] []
          refine qJ.run hκ 1 (pc' := 27) (ls' := [some (qR 2), some (qI hz), some (qI i)]) (st' := [qI i]) rfl ?_
          exact qJ.iret hκ rfl rfl (by decide) (by decide) (by first | exact ⟨by rw [q_pfx_stop v2_2 (by omega) _ (by omega)]; congr 2; omega, rfl⟩ | exact ⟨by rw [show (m 2 0).toNat = i.toNat by omega, v2_2]; congr 2; omega, rfl⟩)
        · show qJ YX1_seenWords κ _ (qLy u, m, y) 0 0 20 [some (qR 2), some (qI hz), some (qI i)] []
          refine qJ.run hκ 2 (pc' := 2) (ls' := [some (qR 2), some (qI hz), some (qI (i + 1))]) (st' := []) rfl ?_
          exact ih2  (i + 1) (by omega) (by omega) (by rw [show (i + 1).toNat = i.toNat + 1 by omega]; exact q_pfx_go v2_2 c17) (by omega)
  show qJ YX1_seenWords κ _ (qLy u, m, y) 0 0 0 [some (qR 2), some (qI hz), none] []
  refine qJ.run hκ 2 (pc' := 2) (ls' := [some (qR 2), some (qI hz), some (qI 0)]) (st' := []) rfl ?_
  exact L2 ((m 2 0).toNat + 1) 0 (by omega) (by omega) (rfl) (by omega)

set_option maxRecDepth 100000 in
theorem c_seenTellings (u : qU) (m y : qM) (hz : Int) (h0 : 0 ≤ m 2 2 ∧ m 2 2 ≤ 150) (h1 : qr hz) (h2 : ∀ k : Int, 0 ≤ k → k < m 2 2 → qr (m 11 k.toNat)) : qCt YX1_seenTellings 1 0 0 [qR 2, qI hz] (qLy u, m, y) (fun r h => r = some (qI (q_pfx (m 11) hz (m 2 2).toNat : Nat)) ∧ h = (qLy u, m, y)) := by
  refine qCt.intro okX1_seenTellings (Nat.le_of_ble_eq_true rfl) (fun κ hκ => ?_)
  have L2 : ∀ (n : Nat) (i : Int), (0 ≤ i) → (i ≤ m 2 2) → (q_pfx (m 11) hz i.toNat = i.toNat) → ((m 2 2 - i).toNat) < n → qJ YX1_seenTellings κ (qFin (fun r h => r = some (qI (q_pfx (m 11) hz (m 2 2).toNat : Nat)) ∧ h = (qLy u, m, y)) 0 0 κ) (qLy u, m, y) 0 0 2 [some (qR 2), some (qI hz), some (qI i)] [] := by
    intro n
    induction n with
    | zero => intro i _ _ _ hz0; omega
    | succ n ih2 =>
      intro i v2_0 v2_1 v2_2 v2_m
      refine qJ.run hκ 3 (pc' := 7) (ls' := [some (qR 2), some (qI hz), some (qI i)]) (st' := [qI (m 2 2), qI i]) rfl ?_
      refine qJ.icmp_ge hκ (tgt := 26) rfl rfl (by omega) (by omega) (fun c7 => ?_) (fun c7 => ?_)
      · show qJ YX1_seenTellings κ _ (qLy u, m, y) 0 0 26 [some (qR 2), some (qI hz), some (qI i)] []
        refine qJ.run hκ 1 (pc' := 27) (ls' := [some (qR 2), some (qI hz), some (qI i)]) (st' := [qI i]) rfl ?_
        exact qJ.iret hκ rfl rfl (by decide) (by decide) (by first | exact ⟨by rw [q_pfx_stop v2_2 (by omega) _ (by omega)]; congr 2; omega, rfl⟩ | exact ⟨by rw [show (m 2 2).toNat = i.toNat by omega, v2_2]; congr 2; omega, rfl⟩)
      · show qJ YX1_seenTellings κ _ (qLy u, m, y) 0 0 10 [some (qR 2), some (qI hz), some (qI i)] []
        refine qJ.run hκ 3 (pc' := 15) (ls' := [some (qR 2), some (qI hz), some (qI i)]) (st' := [qI i, qR 11]) rfl ?_
        refine qJ.ald hκ rfl rfl rfl (by decide) (by omega) ?_
        show qJ YX1_seenTellings κ _ (qLy u, m, y) 0 0 16 [some (qR 2), some (qI hz), some (qI i)] [qI (m 11 i.toNat)]
        refine qJ.run hκ 1 (pc' := 17) (ls' := [some (qR 2), some (qI hz), some (qI i)]) (st' := [qI hz, qI (m 11 i.toNat)]) rfl ?_
        have q1 := h2 i v2_0 c7
        refine qJ.icmp_gt hκ (tgt := 26) rfl rfl (by omega) (by omega) (fun c17 => ?_) (fun c17 => ?_)
        · show qJ YX1_seenTellings κ _ (qLy u, m, y) 0 0 26 [some (qR 2), some (qI hz), some (qI i)] []
          refine qJ.run hκ 1 (pc' := 27) (ls' := [some (qR 2), some (qI hz), some (qI i)]) (st' := [qI i]) rfl ?_
          exact qJ.iret hκ rfl rfl (by decide) (by decide) (by first | exact ⟨by rw [q_pfx_stop v2_2 (by omega) _ (by omega)]; congr 2; omega, rfl⟩ | exact ⟨by rw [show (m 2 2).toNat = i.toNat by omega, v2_2]; congr 2; omega, rfl⟩)
        · show qJ YX1_seenTellings κ _ (qLy u, m, y) 0 0 20 [some (qR 2), some (qI hz), some (qI i)] []
          refine qJ.run hκ 2 (pc' := 2) (ls' := [some (qR 2), some (qI hz), some (qI (i + 1))]) (st' := []) rfl ?_
          exact ih2  (i + 1) (by omega) (by omega) (by rw [show (i + 1).toNat = i.toNat + 1 by omega]; exact q_pfx_go v2_2 c17) (by omega)
  show qJ YX1_seenTellings κ _ (qLy u, m, y) 0 0 0 [some (qR 2), some (qI hz), none] []
  refine qJ.run hκ 2 (pc' := 2) (ls' := [some (qR 2), some (qI hz), some (qI 0)]) (st' := []) rfl ?_
  exact L2 ((m 2 2).toNat + 1) 0 (by omega) (by omega) (rfl) (by omega)

set_option maxRecDepth 100000 in
theorem c_has (u : qU) (m y : qM) (w : Int) (h0 : 0 ≤ m 2 0 ∧ m 2 0 ≤ 60) (h1 : qr w) : qCt YX1_has 1 0 0 [qR 2, qI w] (qLy u, m, y) (fun r h => r = some (qI (if 0 ≤ w ∧ w < m 2 0 then 1 else 0)) ∧ h = (qLy u, m, y)) := by
  refine qCt.intro okX1_has (Nat.le_of_ble_eq_true rfl) (fun κ hκ => ?_)
  show qJ YX1_has κ _ (qLy u, m, y) 0 0 0 [some (qR 2), some (qI w)] []
  refine qJ.run hκ 1 (pc' := 1) (ls' := [some (qR 2), some (qI w)]) (st' := [qI w]) rfl ?_
  refine qJ.if_lt hκ (tgt := 16) rfl rfl (by omega) (fun c1 => ?_) (fun c1 => ?_)
  · show qJ YX1_has κ _ (qLy u, m, y) 0 0 16 [some (qR 2), some (qI w)] []
    refine qJ.run hκ 1 (pc' := 17) (ls' := [some (qR 2), some (qI w)]) (st' := [qI 0]) rfl ?_
    exact qJ.bret hκ rfl rfl (by omega) (by decide) (by decide) (by refine ⟨?_, rfl⟩; congr 2; split <;> omega)
  · show qJ YX1_has κ _ (qLy u, m, y) 0 0 4 [some (qR 2), some (qI w)] []
    refine qJ.run hκ 3 (pc' := 9) (ls' := [some (qR 2), some (qI w)]) (st' := [qI (m 2 0), qI w]) rfl ?_
    refine qJ.icmp_ge hκ (tgt := 16) rfl rfl (by omega) (by omega) (fun c9 => ?_) (fun c9 => ?_)
    · show qJ YX1_has κ _ (qLy u, m, y) 0 0 16 [some (qR 2), some (qI w)] []
      refine qJ.run hκ 1 (pc' := 17) (ls' := [some (qR 2), some (qI w)]) (st' := [qI 0]) rfl ?_
      exact qJ.bret hκ rfl rfl (by omega) (by decide) (by decide) (by refine ⟨?_, rfl⟩; congr 2; split <;> omega)
    · show qJ YX1_has κ _ (qLy u, m, y) 0 0 12 [some (qR 2), some (qI w)] []
      refine qJ.run hκ 2 (pc' := 17) (ls' := [some (qR 2), some (qI w)]) (st' := [qI 1]) rfl ?_
      exact qJ.bret hκ rfl rfl (by omega) (by decide) (by decide) (by refine ⟨?_, rfl⟩; congr 2; split <;> omega)

set_option maxRecDepth 100000 in
theorem c_hasRoomFor (u : qU) (m y : qM) (b : Int) (h0 : 0 ≤ m 2 0 ∧ m 2 0 ≤ 60) (h1 : 0 ≤ m 2 1 ∧ m 2 1 ≤ 12) (h2 : 0 ≤ m 2 2 ∧ m 2 2 ≤ 150) (h3 : b = 0 ∨ b = 1) : qCt YX1_hasRoomFor 1 0 0 [qR 2, qI b] (qLy u, m, y) (fun r h => r = some (qI (if m 2 0 < 60 ∧ m 2 2 < 150 ∧ (b = 0 ∨ m 2 1 < 12) then 1 else 0)) ∧ h = (qLy u, m, y)) := by
  refine qCt.intro okX1_hasRoomFor (Nat.le_of_ble_eq_true rfl) (fun κ hκ => ?_)
  show qJ YX1_hasRoomFor κ _ (qLy u, m, y) 0 0 0 [some (qR 2), some (qI b)] []
  refine qJ.run hκ 3 (pc' := 6) (ls' := [some (qR 2), some (qI b)]) (st' := [qI 60, qI (m 2 0)]) rfl ?_
  refine qJ.icmp_ge hκ (tgt := 36) rfl rfl (by omega) (by omega) (fun c6 => ?_) (fun c6 => ?_)
  · show qJ YX1_hasRoomFor κ _ (qLy u, m, y) 0 0 36 [some (qR 2), some (qI b)] []
    refine qJ.run hκ 1 (pc' := 37) (ls' := [some (qR 2), some (qI b)]) (st' := [qI 0]) rfl ?_
    exact qJ.bret hκ rfl rfl (by omega) (by decide) (by decide) (by refine ⟨?_, rfl⟩; congr 2; split <;> omega)
  · show qJ YX1_hasRoomFor κ _ (qLy u, m, y) 0 0 9 [some (qR 2), some (qI b)] []
    refine qJ.run hκ 3 (pc' := 16) (ls' := [some (qR 2), some (qI b)]) (st' := [qI 150, qI (m 2 2)]) rfl ?_
    refine qJ.icmp_ge hκ (tgt := 36) rfl rfl (by omega) (by omega) (fun c16 => ?_) (fun c16 => ?_)
    · show qJ YX1_hasRoomFor κ _ (qLy u, m, y) 0 0 36 [some (qR 2), some (qI b)] []
      refine qJ.run hκ 1 (pc' := 37) (ls' := [some (qR 2), some (qI b)]) (st' := [qI 0]) rfl ?_
      exact qJ.bret hκ rfl rfl (by omega) (by decide) (by decide) (by refine ⟨?_, rfl⟩; congr 2; split <;> omega)
    · show qJ YX1_hasRoomFor κ _ (qLy u, m, y) 0 0 19 [some (qR 2), some (qI b)] []
      refine qJ.run hκ 1 (pc' := 20) (ls' := [some (qR 2), some (qI b)]) (st' := [qI b]) rfl ?_
      refine qJ.if_eq hκ (tgt := 32) rfl rfl (by omega) (fun c20 => ?_) (fun c20 => ?_)
      · show qJ YX1_hasRoomFor κ _ (qLy u, m, y) 0 0 32 [some (qR 2), some (qI b)] []
        refine qJ.run hκ 2 (pc' := 37) (ls' := [some (qR 2), some (qI b)]) (st' := [qI 1]) rfl ?_
        exact qJ.bret hκ rfl rfl (by omega) (by decide) (by decide) (by refine ⟨?_, rfl⟩; congr 2; split <;> omega)
      · show qJ YX1_hasRoomFor κ _ (qLy u, m, y) 0 0 23 [some (qR 2), some (qI b)] []
        refine qJ.run hκ 3 (pc' := 29) (ls' := [some (qR 2), some (qI b)]) (st' := [qI 12, qI (m 2 1)]) rfl ?_
        refine qJ.icmp_ge hκ (tgt := 36) rfl rfl (by omega) (by omega) (fun c29 => ?_) (fun c29 => ?_)
        · show qJ YX1_hasRoomFor κ _ (qLy u, m, y) 0 0 36 [some (qR 2), some (qI b)] []
          refine qJ.run hκ 1 (pc' := 37) (ls' := [some (qR 2), some (qI b)]) (st' := [qI 0]) rfl ?_
          exact qJ.bret hκ rfl rfl (by omega) (by decide) (by decide) (by refine ⟨?_, rfl⟩; congr 2; split <;> omega)
        · show qJ YX1_hasRoomFor κ _ (qLy u, m, y) 0 0 32 [some (qR 2), some (qI b)] []
          refine qJ.run hκ 2 (pc' := 37) (ls' := [some (qR 2), some (qI b)]) (st' := [qI 1]) rfl ?_
          exact qJ.bret hκ rfl rfl (by omega) (by decide) (by decide) (by refine ⟨?_, rfl⟩; congr 2; split <;> omega)

set_option maxRecDepth 100000 in
theorem c_signAt (u : qU) (m y : qM) (w i : Int) (h0 : 0 ≤ w * 5 + i ∧ w * 5 + i < 300) : qCt YX1_signAt 1 0 0 [qR 2, qI w, qI i] (qLy u, m, y) (fun r h => r = some (qI (m 3 (w * 5 + i).toNat)) ∧ h = (qLy u, m, y)) := by
  refine qCt.intro okX1_signAt (Nat.le_of_ble_eq_true rfl) (fun κ hκ => ?_)
  show qJ YX1_signAt κ _ (qLy u, m, y) 0 0 0 [some (qR 2), some (qI w), some (qI i)] []
  refine qJ.run hκ 7 (pc' := 9) (ls' := [some (qR 2), some (qI w), some (qI i)]) (st' := [qI ((w * 5) + i), qR 3]) rfl ?_
  refine qJ.ald hκ rfl rfl rfl (by decide) (by omega) ?_
  show qJ YX1_signAt κ _ (qLy u, m, y) 0 0 10 [some (qR 2), some (qI w), some (qI i)] [qI (m 3 (((w * 5) + i).toNat))]
  exact qJ.iret hκ rfl rfl (by decide) (by decide) (by first | exact ⟨rfl, rfl⟩ | (refine ⟨?_, rfl⟩; first | rfl | omega))

set_option maxRecDepth 100000 in
theorem c_addTelling (u : qU) (m y : qM) (w k d : Int) (h0 : 0 ≤ m 2 2 ∧ m 2 2 < 150) : qCt YX1_addTelling 1 0 0 [qR 2, qI w, qI k, qI d] (qLy u, m, y) (fun r h => r = some (qI (m 2 2)) ∧ h = (qLy u, q_up (q_up (q_up (q_up m 9 (m 2 2).toNat w) 10 (m 2 2).toNat k) 11 (m 2 2).toNat d) 2 2 (m 2 2 + 1), y)) := by
  refine qCt.intro okX1_addTelling (Nat.le_of_ble_eq_true rfl) (fun κ hκ => ?_)
  show qJ YX1_addTelling κ _ (qLy u, m, y) 0 0 0 [some (qR 2), some (qI w), some (qI k), some (qI d)] []
  refine qJ.run hκ 5 (pc' := 9) (ls' := [some (qR 2), some (qI w), some (qI k), some (qI d)]) (st' := [qI w, qI (m 2 2), qR 9]) rfl ?_
  refine qJ.ast hκ rfl rfl rfl (by decide) (by omega) ?_
  show qJ YX1_addTelling κ _ (qLy u, (q_up m 9 ((m 2 2).toNat) w), y) 0 0 10 [some (qR 2), some (qI w), some (qI k), some (qI d)] []
  refine qJ.run hκ 5 (pc' := 19) (ls' := [some (qR 2), some (qI w), some (qI k), some (qI d)]) (st' := [qI k, qI (m 2 2), qR 10]) rfl ?_
  refine qJ.ast hκ rfl rfl rfl (by decide) (by omega) ?_
  show qJ YX1_addTelling κ _ (qLy u, (q_up (q_up m 9 ((m 2 2).toNat) w) 10 ((m 2 2).toNat) k), y) 0 0 20 [some (qR 2), some (qI w), some (qI k), some (qI d)] []
  refine qJ.run hκ 5 (pc' := 29) (ls' := [some (qR 2), some (qI w), some (qI k), some (qI d)]) (st' := [qI d, qI (m 2 2), qR 11]) rfl ?_
  refine qJ.ast hκ rfl rfl rfl (by decide) (by omega) ?_
  show qJ YX1_addTelling κ _ (qLy u, (q_up (q_up (q_up m 9 ((m 2 2).toNat) w) 10 ((m 2 2).toNat) k) 11 ((m 2 2).toNat) d), y) 0 0 30 [some (qR 2), some (qI w), some (qI k), some (qI d)] []
  refine qJ.run hκ 5 (pc' := 37) (ls' := [some (qR 2), some (qI w), some (qI k), some (qI d)]) (st' := [qI ((m 2 2) + 1), qR 2]) rfl ?_
  refine qJ.putI hκ rfl rfl rfl rfl (Or.inl rfl) ?_
  show qJ YX1_addTelling κ _ (qLy u, (q_up (q_up (q_up (q_up m 9 ((m 2 2).toNat) w) 10 ((m 2 2).toNat) k) 11 ((m 2 2).toNat) d) 2 2 ((m 2 2) + 1)), y) 0 0 40 [some (qR 2), some (qI w), some (qI k), some (qI d)] []
  refine qJ.run hκ 4 (pc' := 46) (ls' := [some (qR 2), some (qI w), some (qI k), some (qI d)]) (st' := [qI (((m 2 2) + 1) - 1)]) rfl ?_
  exact qJ.iret hκ rfl rfl (by decide) (by decide) (by refine ⟨?_, rfl⟩; congr 2; omega)

set_option maxRecDepth 100000 in
theorem c_arePair (u : qU) (m y : qM) (p q a b : Int) (h0 : qr p) (h1 : qr q) (h2 : qr a) (h3 : qr b) : qCt YX1_arePair 1 0 0 [qI p, qI q, qI a, qI b] (qLy u, m, y) (fun r h => r = some (qI (if p = a ∧ q = b ∨ p = b ∧ q = a then 1 else 0)) ∧ h = (qLy u, m, y)) := by
  refine qCt.intro okX1_arePair (Nat.le_of_ble_eq_true rfl) (fun κ hκ => ?_)
  show qJ YX1_arePair κ _ (qLy u, m, y) 0 0 0 [some (qI p), some (qI q), some (qI a), some (qI b)] []
  refine qJ.run hκ 2 (pc' := 2) (ls' := [some (qI p), some (qI q), some (qI a), some (qI b)]) (st' := [qI a, qI p]) rfl ?_
  refine qJ.icmp_ne hκ (tgt := 10) rfl rfl (by omega) (by omega) (fun c2 => ?_) (fun c2 => ?_)
  · show qJ YX1_arePair κ _ (qLy u, m, y) 0 0 10 [some (qI p), some (qI q), some (qI a), some (qI b)] []
    refine qJ.run hκ 2 (pc' := 12) (ls' := [some (qI p), some (qI q), some (qI a), some (qI b)]) (st' := [qI b, qI p]) rfl ?_
    refine qJ.icmp_ne hκ (tgt := 24) rfl rfl (by omega) (by omega) (fun c12 => ?_) (fun c12 => ?_)
    · show qJ YX1_arePair κ _ (qLy u, m, y) 0 0 24 [some (qI p), some (qI q), some (qI a), some (qI b)] []
      refine qJ.run hκ 1 (pc' := 25) (ls' := [some (qI p), some (qI q), some (qI a), some (qI b)]) (st' := [qI 0]) rfl ?_
      exact qJ.bret hκ rfl rfl (by omega) (by decide) (by decide) (by refine ⟨?_, rfl⟩; congr 2; split <;> omega)
    · show qJ YX1_arePair κ _ (qLy u, m, y) 0 0 15 [some (qI p), some (qI q), some (qI a), some (qI b)] []
      refine qJ.run hκ 2 (pc' := 17) (ls' := [some (qI p), some (qI q), some (qI a), some (qI b)]) (st' := [qI a, qI q]) rfl ?_
      refine qJ.icmp_ne hκ (tgt := 24) rfl rfl (by omega) (by omega) (fun c17 => ?_) (fun c17 => ?_)
      · show qJ YX1_arePair κ _ (qLy u, m, y) 0 0 24 [some (qI p), some (qI q), some (qI a), some (qI b)] []
        refine qJ.run hκ 1 (pc' := 25) (ls' := [some (qI p), some (qI q), some (qI a), some (qI b)]) (st' := [qI 0]) rfl ?_
        exact qJ.bret hκ rfl rfl (by omega) (by decide) (by decide) (by refine ⟨?_, rfl⟩; congr 2; split <;> omega)
      · show qJ YX1_arePair κ _ (qLy u, m, y) 0 0 20 [some (qI p), some (qI q), some (qI a), some (qI b)] []
        refine qJ.run hκ 2 (pc' := 25) (ls' := [some (qI p), some (qI q), some (qI a), some (qI b)]) (st' := [qI 1]) rfl ?_
        exact qJ.bret hκ rfl rfl (by omega) (by decide) (by decide) (by refine ⟨?_, rfl⟩; congr 2; split <;> omega)
  · show qJ YX1_arePair κ _ (qLy u, m, y) 0 0 5 [some (qI p), some (qI q), some (qI a), some (qI b)] []
    refine qJ.run hκ 2 (pc' := 7) (ls' := [some (qI p), some (qI q), some (qI a), some (qI b)]) (st' := [qI b, qI q]) rfl ?_
    refine qJ.icmp_eq hκ (tgt := 20) rfl rfl (by omega) (by omega) (fun c7 => ?_) (fun c7 => ?_)
    · show qJ YX1_arePair κ _ (qLy u, m, y) 0 0 20 [some (qI p), some (qI q), some (qI a), some (qI b)] []
      refine qJ.run hκ 2 (pc' := 25) (ls' := [some (qI p), some (qI q), some (qI a), some (qI b)]) (st' := [qI 1]) rfl ?_
      exact qJ.bret hκ rfl rfl (by omega) (by decide) (by decide) (by refine ⟨?_, rfl⟩; congr 2; split <;> omega)
    · show qJ YX1_arePair κ _ (qLy u, m, y) 0 0 10 [some (qI p), some (qI q), some (qI a), some (qI b)] []
      refine qJ.run hκ 2 (pc' := 12) (ls' := [some (qI p), some (qI q), some (qI a), some (qI b)]) (st' := [qI b, qI p]) rfl ?_
      refine qJ.icmp_ne hκ (tgt := 24) rfl rfl (by omega) (by omega) (fun c12 => ?_) (fun c12 => ?_)
      · show qJ YX1_arePair κ _ (qLy u, m, y) 0 0 24 [some (qI p), some (qI q), some (qI a), some (qI b)] []
        refine qJ.run hκ 1 (pc' := 25) (ls' := [some (qI p), some (qI q), some (qI a), some (qI b)]) (st' := [qI 0]) rfl ?_
        exact qJ.bret hκ rfl rfl (by omega) (by decide) (by decide) (by refine ⟨?_, rfl⟩; congr 2; split <;> omega)
      · show qJ YX1_arePair κ _ (qLy u, m, y) 0 0 15 [some (qI p), some (qI q), some (qI a), some (qI b)] []
        refine qJ.run hκ 2 (pc' := 17) (ls' := [some (qI p), some (qI q), some (qI a), some (qI b)]) (st' := [qI a, qI q]) rfl ?_
        refine qJ.icmp_ne hκ (tgt := 24) rfl rfl (by omega) (by omega) (fun c17 => ?_) (fun c17 => ?_)
        · show qJ YX1_arePair κ _ (qLy u, m, y) 0 0 24 [some (qI p), some (qI q), some (qI a), some (qI b)] []
          refine qJ.run hκ 1 (pc' := 25) (ls' := [some (qI p), some (qI q), some (qI a), some (qI b)]) (st' := [qI 0]) rfl ?_
          exact qJ.bret hκ rfl rfl (by omega) (by decide) (by decide) (by refine ⟨?_, rfl⟩; congr 2; split <;> omega)
        · show qJ YX1_arePair κ _ (qLy u, m, y) 0 0 20 [some (qI p), some (qI q), some (qI a), some (qI b)] []
          refine qJ.run hκ 2 (pc' := 25) (ls' := [some (qI p), some (qI q), some (qI a), some (qI b)]) (st' := [qI 1]) rfl ?_
          exact qJ.bret hκ rfl rfl (by omega) (by decide) (by decide) (by refine ⟨?_, rfl⟩; congr 2; split <;> omega)

/-- a word's case by the first n tellings: the last one of the word -/
def gC (m : qM) (w : Int) (n : Nat) : Int := if q_lst (fun k => m 9 k = w) n = -1 then -1 else m 10 (q_lst (fun k => m 9 k = w) n).toNat
theorem q_lst_r (p : Nat → Prop) [DecidablePred p] : ∀ n, -1 ≤ q_lst p n ∧ q_lst p n < n
  | 0 => by constructor <;> simp [q_lst]
  | n + 1 => by
    have := q_lst_r p n
    unfold q_lst
    split <;> constructor <;> omega

set_option maxRecDepth 100000 in
theorem c_caseOf (u : qU) (m y : qM) (w hz : Int) (n0 : Nat) (hp : q_pfx (m 11) hz (m 2 2).toNat = n0) (h0 : 0 ≤ m 2 2 ∧ m 2 2 ≤ 150) (h1 : qr hz) (h2 : qr w) (hS11 : ∀ k : Int, 0 ≤ k → k < m 2 2 → qr (m 11 k.toNat)) (h3 : ∀ k : Int, 0 ≤ k → k < m 2 2 → qr (m 9 k.toNat)) : qCt YX1_caseOf 2 0 0 [qR 2, qI w, qI hz] (qLy u, m, y) (fun r h => r = some (qI (gC m w n0)) ∧ h = (qLy u, m, y)) := by
  refine qCt.intro okX1_caseOf (Nat.le_of_ble_eq_true rfl) (fun κ hκ => ?_)
  have p0 := q_pfx_le (m 11) hz (m 2 2).toNat
  rw [hp] at p0
  have L8 : ∀ (n : Nat) (i : Int), (-1 ≤ i) → (i < (n0 : Int)) → (gC m w n0 = gC m w (i + 1).toNat) → ((i + 1).toNat) < n → qJ YX1_caseOf κ (qFin (fun r h => r = some (qI (gC m w n0)) ∧ h = (qLy u, m, y)) 0 0 κ) (qLy u, m, y) 0 0 8 [some (qR 2), some (qI w), some (qI hz), some (qI i)] [] := by
    intro n
    induction n with
    | zero => intro i _ _ _ hz0; omega
    | succ n ih8 =>
      intro i v8_0 v8_1 v8_2 v8_m
      refine qJ.run hκ 1 (pc' := 9) (ls' := [some (qR 2), some (qI w), some (qI hz), some (qI i)]) (st' := [qI i]) rfl ?_
      refine qJ.if_lt hκ (tgt := 35) rfl rfl (by omega) (fun c9 => ?_) (fun c9 => ?_)
      · show qJ YX1_caseOf κ _ (qLy u, m, y) 0 0 35 [some (qR 2), some (qI w), some (qI hz), some (qI i)] []
        refine qJ.run hκ 1 (pc' := 36) (ls' := [some (qR 2), some (qI w), some (qI hz), some (qI i)]) (st' := [qI (-1)]) rfl ?_
        exact qJ.iret hκ rfl rfl (by decide) (by decide) (by refine ⟨?_, rfl⟩; rw [v8_2, show (i + 1).toNat = 0 by omega]; rfl)
      · show qJ YX1_caseOf κ _ (qLy u, m, y) 0 0 12 [some (qR 2), some (qI w), some (qI hz), some (qI i)] []
        refine qJ.run hκ 3 (pc' := 17) (ls' := [some (qR 2), some (qI w), some (qI hz), some (qI i)]) (st' := [qI i, qR 9]) rfl ?_
        refine qJ.ald hκ rfl rfl rfl (by decide) (by omega) ?_
        show qJ YX1_caseOf κ _ (qLy u, m, y) 0 0 18 [some (qR 2), some (qI w), some (qI hz), some (qI i)] [qI (m 9 i.toNat)]
        refine qJ.run hκ 1 (pc' := 19) (ls' := [some (qR 2), some (qI w), some (qI hz), some (qI i)]) (st' := [qI w, qI (m 9 i.toNat)]) rfl ?_
        have q1 := h3 i (by omega) (by omega)
        refine qJ.icmp_ne hκ (tgt := 29) rfl rfl (by omega) (by omega) (fun c19 => ?_) (fun c19 => ?_)
        · show qJ YX1_caseOf κ _ (qLy u, m, y) 0 0 29 [some (qR 2), some (qI w), some (qI hz), some (qI i)] []
          refine qJ.run hκ 2 (pc' := 8) (ls' := [some (qR 2), some (qI w), some (qI hz), some (qI (i + (-1)))]) (st' := []) rfl ?_
          exact ih8  (i + (-1)) (by omega) (by omega) (by rw [v8_2, show (i + (-1) + 1).toNat = i.toNat by omega]; unfold gC; rw [q_lst_s (by omega), if_neg c19]) (by omega)
        · show qJ YX1_caseOf κ _ (qLy u, m, y) 0 0 22 [some (qR 2), some (qI w), some (qI hz), some (qI i)] []
          refine qJ.run hκ 3 (pc' := 27) (ls' := [some (qR 2), some (qI w), some (qI hz), some (qI i)]) (st' := [qI i, qR 10]) rfl ?_
          refine qJ.ald hκ rfl rfl rfl (by decide) (by omega) ?_
          show qJ YX1_caseOf κ _ (qLy u, m, y) 0 0 28 [some (qR 2), some (qI w), some (qI hz), some (qI i)] [qI (m 10 i.toNat)]
          exact qJ.iret hκ rfl rfl (by decide) (by decide) (by refine ⟨?_, rfl⟩; rw [v8_2]; unfold gC; rw [q_lst_s (by omega), if_pos c19, if_neg (by omega)])
  show qJ YX1_caseOf κ _ (qLy u, m, y) 0 0 0 [some (qR 2), some (qI w), some (qI hz), none] []
  refine qJ.run hκ 2 (pc' := 2) (ls' := [some (qR 2), some (qI w), some (qI hz), none]) (st' := [qI hz, qR 2]) rfl ?_
  refine qJ.callV (As := [qI hz]) (rest := []) hκ rfl kX1_53 (hp ▸ c_seenTellings u m y hz h0 h1 hS11) rfl rfl (by decide) rfl rfl (Nat.le_of_ble_eq_true rfl) (Nat.le_of_ble_eq_true rfl) (Nat.le_of_ble_eq_true rfl) (Or.inl (fun r h' e => by obtain ⟨rfl, rfl⟩ := e; rfl)) (fun r h' e => ?_)
  obtain ⟨rfl, rfl⟩ := e
  show qJ YX1_caseOf κ _ (qLy u, m, y) 0 0 5 [some (qR 2), some (qI w), some (qI hz), none] [qI (n0 : Int)]
  refine qJ.run hκ 3 (pc' := 8) (ls' := [some (qR 2), some (qI w), some (qI hz), some (qI ((n0 : Int) - 1))]) (st' := []) rfl ?_
  exact L8 (n0 + 2) ((n0 : Int) - 1) (by omega) (by omega) (by rw [show ((n0 : Int) - 1 + 1).toNat = n0 by omega]) (by omega)

set_option maxRecDepth 100000 in
theorem c_placeApart (u : qU) (m y : qM) (w v : Int) (h0 : 0 ≤ m 2 0 ∧ m 2 0 ≤ 60) (hW : gW m) (hw : 0 ≤ w ∧ w < m 2 0) (hv : 0 ≤ v ∧ v < m 2 0) : qCt YX1_placeApart 2 0 0 [qR 2, qI w, qI v] (qLy u, m, y) (fun r h => r = some (qI (gPA m w v)) ∧ h = (qLy u, m, y)) := by
  refine qCt.intro okX1_placeApart (Nat.le_of_ble_eq_true rfl) (fun κ hκ => ?_)
  have w1 := hW w hw.1 hw.2
  have w2 := hW v hv.1 hv.2
  have L42 : ∀ (n : Nat) (a : Int) (i : Int), (0 ≤ i) → (i ≤ m 4 w.toNat) → (m 4 w.toNat = m 4 v.toNat ∧ m 5 w.toNat = -1 ∧ m 5 v.toNat = -1) → (q_cnt (gD m w v) i.toNat ≤ 1) → (a = q_fst (gD m w v) i.toNat) → ((m 4 w.toNat - i).toNat) < n → qJ YX1_placeApart κ (qFin (fun r h => r = some (qI (gPA m w v)) ∧ h = (qLy u, m, y)) 0 0 κ) (qLy u, m, y) 0 0 42 [some (qR 2), some (qI w), some (qI v), some (qI a), some (qI i)] [] := by
    intro n
    induction n with
    | zero => intro a i _ _ _ _ _ hz0; omega
    | succ n ih42 =>
      intro a i v42_0 v42_1 v42_2 v42_3 v42_4 v42_m
      refine qJ.run hκ 4 (pc' := 49) (ls' := [some (qR 2), some (qI w), some (qI v), some (qI a), some (qI i)]) (st' := [qI w, qR 4, qI i]) rfl ?_
      refine qJ.ald hκ rfl rfl rfl (by decide) (by omega) ?_
      show qJ YX1_placeApart κ _ (qLy u, m, y) 0 0 50 [some (qR 2), some (qI w), some (qI v), some (qI a), some (qI i)] [qI (m 4 w.toNat), qI i]
      refine qJ.icmp_ge hκ (tgt := 86) rfl rfl (by omega) (by omega) (fun c50 => ?_) (fun c50 => ?_)
      · show qJ YX1_placeApart κ _ (qLy u, m, y) 0 0 86 [some (qR 2), some (qI w), some (qI v), some (qI a), some (qI i)] []
        refine qJ.run hκ 1 (pc' := 87) (ls' := [some (qR 2), some (qI w), some (qI v), some (qI a), some (qI i)]) (st' := [qI a]) rfl ?_
        exact qJ.iret hκ rfl rfl (by decide) (by decide) (by refine ⟨?_, rfl⟩; rw [gPA_end v42_2 (by rw [show m 4 w.toNat = i by omega]; exact v42_3), show m 4 w.toNat = i by omega, v42_4])
      · show qJ YX1_placeApart κ _ (qLy u, m, y) 0 0 53 [some (qR 2), some (qI w), some (qI v), some (qI a), some (qI i)] []
        have w3 := w1.2.2 i v42_0 c50
        have w4 := w2.2.2 i v42_0 (by omega)
        have fr := q_fst_r (gD m w v) i.toNat
        refine qJ.run hκ 3 (pc' := 57) (ls' := [some (qR 2), some (qI w), some (qI v), some (qI a), some (qI i)]) (st' := [qI i, qI w, qR 2]) rfl ?_
        refine qJ.callV (As := [qI w, qI i]) (rest := []) hκ rfl kX1_57 (c_signAt u m y w i (by omega)) rfl rfl (by decide) rfl rfl (Nat.le_of_ble_eq_true rfl) (Nat.le_of_ble_eq_true rfl) (Nat.le_of_ble_eq_true rfl) (Or.inl (fun r h' e => by obtain ⟨rfl, rfl⟩ := e; rfl)) (fun r h' e => ?_)
        obtain ⟨rfl, rfl⟩ := e
        show qJ YX1_placeApart κ _ (qLy u, m, y) 0 0 60 [some (qR 2), some (qI w), some (qI v), some (qI a), some (qI i)] [qI (m 3 ((w * 5 + i).toNat))]
        refine qJ.run hκ 3 (pc' := 64) (ls' := [some (qR 2), some (qI w), some (qI v), some (qI a), some (qI i)]) (st' := [qI i, qI v, qR 2, qI (m 3 ((w * 5 + i).toNat))]) rfl ?_
        refine qJ.callV (As := [qI v, qI i]) (rest := [qI (m 3 ((w * 5 + i).toNat))]) hκ rfl kX1_57 (c_signAt u m y v i (by omega)) rfl rfl (by decide) rfl rfl (Nat.le_of_ble_eq_true rfl) (Nat.le_of_ble_eq_true rfl) (Nat.le_of_ble_eq_true rfl) (Or.inl (fun r h' e => by obtain ⟨rfl, rfl⟩ := e; rfl)) (fun r h' e => ?_)
        obtain ⟨rfl, rfl⟩ := e
        show qJ YX1_placeApart κ _ (qLy u, m, y) 0 0 67 [some (qR 2), some (qI w), some (qI v), some (qI a), some (qI i)] [qI (m 3 ((v * 5 + i).toNat)), qI (m 3 ((w * 5 + i).toNat))]
        refine qJ.icmp_eq hκ (tgt := 80) rfl rfl (by omega) (by omega) (fun c67 => ?_) (fun c67 => ?_)
        · show qJ YX1_placeApart κ _ (qLy u, m, y) 0 0 80 [some (qR 2), some (qI w), some (qI v), some (qI a), some (qI i)] []
          refine qJ.run hκ 2 (pc' := 42) (ls' := [some (qR 2), some (qI w), some (qI v), some (qI a), some (qI (i + 1))]) (st' := []) rfl ?_
          exact ih42  a (i + 1) (by omega) (by omega) (by omega) (by rw [q_cnt_s v42_0, if_neg (fun z => (gD_i v42_0).mp z c67)]; omega) (by rw [q_fst_s v42_0, if_neg (fun z => (gD_i v42_0).mp z.2 c67)]; exact v42_4) (by omega)
        · show qJ YX1_placeApart κ _ (qLy u, m, y) 0 0 70 [some (qR 2), some (qI w), some (qI v), some (qI a), some (qI i)] []
          refine qJ.run hκ 2 (pc' := 72) (ls' := [some (qR 2), some (qI w), some (qI v), some (qI a), some (qI i)]) (st' := [qI (-1), qI a]) rfl ?_
          refine qJ.icmp_eq hκ (tgt := 77) rfl rfl (by omega) (by omega) (fun c72 => ?_) (fun c72 => ?_)
          · show qJ YX1_placeApart κ _ (qLy u, m, y) 0 0 77 [some (qR 2), some (qI w), some (qI v), some (qI a), some (qI i)] []
            refine qJ.run hκ 4 (pc' := 42) (ls' := [some (qR 2), some (qI w), some (qI v), some (qI i), some (qI (i + 1))]) (st' := []) rfl ?_
            exact ih42  i (i + 1) (by omega) (by omega) (by omega) (by have := (q_fst_0 (gD m w v) i.toNat).mp (by omega); rw [q_cnt_s v42_0]; split <;> omega) (by rw [q_fst_s v42_0, if_pos ⟨by omega, (gD_i v42_0).mpr c67⟩]) (by omega)
          · show qJ YX1_placeApart κ _ (qLy u, m, y) 0 0 75 [some (qR 2), some (qI w), some (qI v), some (qI a), some (qI i)] []
            refine qJ.run hκ 1 (pc' := 76) (ls' := [some (qR 2), some (qI w), some (qI v), some (qI a), some (qI i)]) (st' := [qI (-1)]) rfl ?_
            exact qJ.iret hκ rfl rfl (by decide) (by decide) (by refine ⟨?_, rfl⟩; rw [gPA_two v42_0 c50 (by omega) c67])
  show qJ YX1_placeApart κ _ (qLy u, m, y) 0 0 0 [some (qR 2), some (qI w), some (qI v), none, none] []
  refine qJ.run hκ 3 (pc' := 5) (ls' := [some (qR 2), some (qI w), some (qI v), none, none]) (st' := [qI w, qR 4]) rfl ?_
  refine qJ.ald hκ rfl rfl rfl (by decide) (by omega) ?_
  show qJ YX1_placeApart κ _ (qLy u, m, y) 0 0 6 [some (qR 2), some (qI w), some (qI v), none, none] [qI (m 4 w.toNat)]
  refine qJ.run hκ 3 (pc' := 11) (ls' := [some (qR 2), some (qI w), some (qI v), none, none]) (st' := [qI v, qR 4, qI (m 4 w.toNat)]) rfl ?_
  refine qJ.ald hκ rfl rfl rfl (by decide) (by omega) ?_
  show qJ YX1_placeApart κ _ (qLy u, m, y) 0 0 12 [some (qR 2), some (qI w), some (qI v), none, none] [qI (m 4 v.toNat), qI (m 4 w.toNat)]
  refine qJ.icmp_ne hκ (tgt := 35) rfl rfl (by omega) (by omega) (fun c12 => ?_) (fun c12 => ?_)
  · show qJ YX1_placeApart κ _ (qLy u, m, y) 0 0 35 [some (qR 2), some (qI w), some (qI v), none, none] []
    refine qJ.run hκ 1 (pc' := 36) (ls' := [some (qR 2), some (qI w), some (qI v), none, none]) (st' := [qI (-1)]) rfl ?_
    exact qJ.iret hκ rfl rfl (by decide) (by decide) (by refine ⟨?_, rfl⟩; rw [gPA_no (by omega)])
  · show qJ YX1_placeApart κ _ (qLy u, m, y) 0 0 15 [some (qR 2), some (qI w), some (qI v), none, none] []
    refine qJ.run hκ 3 (pc' := 20) (ls' := [some (qR 2), some (qI w), some (qI v), none, none]) (st' := [qI w, qR 5]) rfl ?_
    refine qJ.ald hκ rfl rfl rfl (by decide) (by omega) ?_
    show qJ YX1_placeApart κ _ (qLy u, m, y) 0 0 21 [some (qR 2), some (qI w), some (qI v), none, none] [qI (m 5 w.toNat)]
    refine qJ.run hκ 1 (pc' := 22) (ls' := [some (qR 2), some (qI w), some (qI v), none, none]) (st' := [qI (-1), qI (m 5 w.toNat)]) rfl ?_
    refine qJ.icmp_ne hκ (tgt := 35) rfl rfl (by omega) (by omega) (fun c22 => ?_) (fun c22 => ?_)
    · show qJ YX1_placeApart κ _ (qLy u, m, y) 0 0 35 [some (qR 2), some (qI w), some (qI v), none, none] []
      refine qJ.run hκ 1 (pc' := 36) (ls' := [some (qR 2), some (qI w), some (qI v), none, none]) (st' := [qI (-1)]) rfl ?_
      exact qJ.iret hκ rfl rfl (by decide) (by decide) (by refine ⟨?_, rfl⟩; rw [gPA_no (by omega)])
    · show qJ YX1_placeApart κ _ (qLy u, m, y) 0 0 25 [some (qR 2), some (qI w), some (qI v), none, none] []
      refine qJ.run hκ 3 (pc' := 30) (ls' := [some (qR 2), some (qI w), some (qI v), none, none]) (st' := [qI v, qR 5]) rfl ?_
      refine qJ.ald hκ rfl rfl rfl (by decide) (by omega) ?_
      show qJ YX1_placeApart κ _ (qLy u, m, y) 0 0 31 [some (qR 2), some (qI w), some (qI v), none, none] [qI (m 5 v.toNat)]
      refine qJ.run hκ 1 (pc' := 32) (ls' := [some (qR 2), some (qI w), some (qI v), none, none]) (st' := [qI (-1), qI (m 5 v.toNat)]) rfl ?_
      refine qJ.icmp_eq hκ (tgt := 37) rfl rfl (by omega) (by omega) (fun c32 => ?_) (fun c32 => ?_)
      · show qJ YX1_placeApart κ _ (qLy u, m, y) 0 0 37 [some (qR 2), some (qI w), some (qI v), none, none] []
        refine qJ.run hκ 4 (pc' := 42) (ls' := [some (qR 2), some (qI w), some (qI v), some (qI (-1)), some (qI 0)]) (st' := []) rfl ?_
        exact L42 6 (-1) 0 (by omega) (by omega) (by omega) (Nat.le_of_ble_eq_true rfl) (rfl) (by omega)
      · show qJ YX1_placeApart κ _ (qLy u, m, y) 0 0 35 [some (qR 2), some (qI w), some (qI v), none, none] []
        refine qJ.run hκ 1 (pc' := 36) (ls' := [some (qR 2), some (qI w), some (qI v), none, none]) (st' := [qI (-1)]) rfl ?_
        exact qJ.iret hκ rfl rfl (by decide) (by decide) (by refine ⟨?_, rfl⟩; rw [gPA_no (by omega)])

theorem gPA_len {m : qM} {w v : Int} (h : ¬ gPA m w v = -1) : m 4 w.toNat = m 4 v.toNat := by
  unfold gPA at h
  split at h
  · rename_i g; exact g.1.1
  · exact absurd rfl h
/-- the two words differ at one place, by these two signs -/
abbrev gTw (m : qM) (a b : Int) (w v : Nat) : Prop := ¬ gPA m w v = -1 ∧ (m 3 ((w : Int) * 5 + gPA m w v).toNat = a ∧ m 3 ((v : Int) * 5 + gPA m w v).toNat = b ∨ m 3 ((w : Int) * 5 + gPA m w v).toNat = b ∧ m 3 ((v : Int) * 5 + gPA m w v).toNat = a)
theorem gTw_i {m : qM} {a b w v : Int} (hw : 0 ≤ w) (hv : 0 ≤ v) : gTw m a b w.toNat v.toNat ↔ ¬ gPA m w v = -1 ∧ (m 3 (w * 5 + gPA m w v).toNat = a ∧ m 3 (v * 5 + gPA m w v).toNat = b ∨ m 3 (w * 5 + gPA m w v).toNat = b ∧ m 3 (v * 5 + gPA m w v).toNat = a) := by
  unfold gTw
  rw [show ((w.toNat : Nat) : Int) = w by omega, show ((v.toNat : Nat) : Int) = v by omega]
def gTn (m : qM) (a b : Int) (n : Nat) : Int := q_sum (fun w => (q_cnt (gTw m a b w) w : Int)) n
theorem gTn_s {m : qM} {a b w : Int} (h : 0 ≤ w) : gTn m a b (w + 1).toNat = gTn m a b w.toNat + (q_cnt (gTw m a b w.toNat) w.toNat : Int) := q_sum_s h
theorem gTn_1 {m : qM} {a b : Int} : ∀ n, n ≤ 1 → gTn m a b n = 0
  | 0, _ => rfl
  | 1, _ => rfl

set_option maxRecDepth 100000 in
theorem c_pairsApartBy (u : qU) (m y : qM) (a b hz : Int) (n0 : Nat) (hp : q_pfx (m 7) hz (m 2 0).toNat = n0) (h0 : 0 ≤ m 2 0 ∧ m 2 0 ≤ 60) (h1 : qr hz) (h2 : qr a) (h3 : qr b) (hW : gW m) (hS7 : ∀ k : Int, 0 ≤ k → k < m 2 0 → qr (m 7 k.toNat)) : qCt YX1_pairsApartBy 3 0 0 [qR 2, qI a, qI b, qI hz] (qLy u, m, y) (fun r h => r = some (qI (gTn m a b n0)) ∧ h = (qLy u, m, y)) := by
  refine qCt.intro okX1_pairsApartBy (Nat.le_of_ble_eq_true rfl) (fun κ hκ => ?_)
  have p0 := q_pfx_le (m 7) hz (m 2 0).toNat
  rw [hp] at p0
  have L13 : ∀ (n : Nat) (c : Int) (w : Int), (1 ≤ w) → (w ≤ (n0 : Int) ∨ w = 1) → (c = gTn m a b w.toNat) → (((n0 : Int) - w).toNat) < n → qJ YX1_pairsApartBy κ (qFin (fun r h => r = some (qI (gTn m a b n0)) ∧ h = (qLy u, m, y)) 0 0 κ) (qLy u, m, y) 0 0 13 [some (qR 2), some (qI a), some (qI b), some (qI hz), some (qI c), some (qI (n0 : Int)), some (qI w), none, none] [] := by
    intro n
    induction n with
    | zero => intro c w _ _ _ hz0; omega
    | succ n ih13 =>
      intro c w v13_0 v13_1 v13_2 v13_m
      have L23 : ∀ (n : Nat) (c : Int) (v : Int), (0 ≤ v) → (v ≤ w) → (c = gTn m a b w.toNat + (q_cnt (gTw m a b w.toNat) v.toNat : Int)) → (w < (n0 : Int)) → ((w - v).toNat) < n → qJ YX1_pairsApartBy κ (qFin (fun r h => r = some (qI (gTn m a b n0)) ∧ h = (qLy u, m, y)) 0 0 κ) (qLy u, m, y) 0 0 23 [some (qR 2), some (qI a), some (qI b), some (qI hz), some (qI c), some (qI (n0 : Int)), some (qI w), some (qI v), none] [] := by
        intro n
        induction n with
        | zero => intro c v _ _ _ _ hz0; omega
        | succ n ih23 =>
          intro c v v23_0 v23_1 v23_2 v23_3 v23_m
          refine qJ.run hκ 2 (pc' := 27) (ls' := [some (qR 2), some (qI a), some (qI b), some (qI hz), some (qI c), some (qI (n0 : Int)), some (qI w), some (qI v), none]) (st' := [qI w, qI v]) rfl ?_
          refine qJ.icmp_ge hκ (tgt := 79) rfl rfl (by omega) (by omega) (fun c27 => ?_) (fun c27 => ?_)
          · show qJ YX1_pairsApartBy κ _ (qLy u, m, y) 0 0 79 [some (qR 2), some (qI a), some (qI b), some (qI hz), some (qI c), some (qI (n0 : Int)), some (qI w), some (qI v), none] []
            refine qJ.run hκ 2 (pc' := 13) (ls' := [some (qR 2), some (qI a), some (qI b), some (qI hz), some (qI c), some (qI (n0 : Int)), some (qI (w + 1)), some (qI v), none]) (st' := []) rfl ?_
            refine qJ.dl [true, true, true, true, true, true, true, false, false] ?_
            show qJ YX1_pairsApartBy κ _ (qLy u, m, y) 0 0 13 [some (qR 2), some (qI a), some (qI b), some (qI hz), some (qI c), some (qI (n0 : Int)), some (qI (w + 1)), none, none] []
            exact ih13  c (w + 1) (by omega) (by omega) (by rw [gTn_s (by omega), ← show v = w by omega]; rw [show w = v by omega] at v23_2; exact v23_2) (by omega)
          · show qJ YX1_pairsApartBy κ _ (qLy u, m, y) 0 0 30 [some (qR 2), some (qI a), some (qI b), some (qI hz), some (qI c), some (qI (n0 : Int)), some (qI w), some (qI v), none] []
            have w1 := hW w (by omega) (by omega)
            have w2 := hW v (by omega) (by omega)
            have pr := gPA_r m w v (by omega)
            refine qJ.run hκ 3 (pc' := 35) (ls' := [some (qR 2), some (qI a), some (qI b), some (qI hz), some (qI c), some (qI (n0 : Int)), some (qI w), some (qI v), none]) (st' := [qI v, qI w, qR 2]) rfl ?_
            refine qJ.callV (As := [qI w, qI v]) (rest := []) hκ rfl kX1_64 (c_placeApart u m y w v (by omega) hW (by omega) (by omega)) rfl rfl (by decide) rfl rfl (Nat.le_of_ble_eq_true rfl) (Nat.le_of_ble_eq_true rfl) (Nat.le_of_ble_eq_true rfl) (Or.inl (fun r h' e => by obtain ⟨rfl, rfl⟩ := e; rfl)) (fun r h' e => ?_)
            obtain ⟨rfl, rfl⟩ := e
            show qJ YX1_pairsApartBy κ _ (qLy u, m, y) 0 0 38 [some (qR 2), some (qI a), some (qI b), some (qI hz), some (qI c), some (qI (n0 : Int)), some (qI w), some (qI v), none] [qI (gPA m w v)]
            refine qJ.run hκ 3 (pc' := 43) (ls' := [some (qR 2), some (qI a), some (qI b), some (qI hz), some (qI c), some (qI (n0 : Int)), some (qI w), some (qI v), some (qI (gPA m w v))]) (st' := [qI (-1), qI (gPA m w v)]) rfl ?_
            refine qJ.icmp_eq hκ (tgt := 73) rfl rfl (by omega) (by omega) (fun c43 => ?_) (fun c43 => ?_)
            · show qJ YX1_pairsApartBy κ _ (qLy u, m, y) 0 0 73 [some (qR 2), some (qI a), some (qI b), some (qI hz), some (qI c), some (qI (n0 : Int)), some (qI w), some (qI v), some (qI (gPA m w v))] []
              refine qJ.run hκ 2 (pc' := 23) (ls' := [some (qR 2), some (qI a), some (qI b), some (qI hz), some (qI c), some (qI (n0 : Int)), some (qI w), some (qI (v + 1)), some (qI (gPA m w v))]) (st' := []) rfl ?_
              refine qJ.dl [true, true, true, true, true, true, true, true, false] ?_
              show qJ YX1_pairsApartBy κ _ (qLy u, m, y) 0 0 23 [some (qR 2), some (qI a), some (qI b), some (qI hz), some (qI c), some (qI (n0 : Int)), some (qI w), some (qI (v + 1)), none] []
              exact ih23  c (v + 1) (by omega) (by omega) (by rw [q_cnt_s v23_0, if_neg (fun z => ((gTw_i (by omega) v23_0).mp z).1 c43), Nat.add_zero]; exact v23_2) (by omega) (by omega)
            · show qJ YX1_pairsApartBy κ _ (qLy u, m, y) 0 0 46 [some (qR 2), some (qI a), some (qI b), some (qI hz), some (qI c), some (qI (n0 : Int)), some (qI w), some (qI v), some (qI (gPA m w v))] []
              have ln := gPA_len c43
              have x1 := w1.2.2 (gPA m w v) (by omega) (by omega)
              have x2 := w2.2.2 (gPA m w v) (by omega) (by omega)
              refine qJ.run hκ 3 (pc' := 51) (ls' := [some (qR 2), some (qI a), some (qI b), some (qI hz), some (qI c), some (qI (n0 : Int)), some (qI w), some (qI v), some (qI (gPA m w v))]) (st' := [qI (gPA m w v), qI w, qR 2]) rfl ?_
              refine qJ.callV (As := [qI w, qI (gPA m w v)]) (rest := []) hκ rfl kX1_57 (c_signAt u m y w (gPA m w v) (by omega)) rfl rfl (by decide) rfl rfl (Nat.le_of_ble_eq_true rfl) (Nat.le_of_ble_eq_true rfl) (Nat.le_of_ble_eq_true rfl) (Or.inl (fun r h' e => by obtain ⟨rfl, rfl⟩ := e; rfl)) (fun r h' e => ?_)
              obtain ⟨rfl, rfl⟩ := e
              show qJ YX1_pairsApartBy κ _ (qLy u, m, y) 0 0 54 [some (qR 2), some (qI a), some (qI b), some (qI hz), some (qI c), some (qI (n0 : Int)), some (qI w), some (qI v), some (qI (gPA m w v))] [qI (m 3 ((w * 5 + (gPA m w v)).toNat))]
              refine qJ.run hκ 3 (pc' := 59) (ls' := [some (qR 2), some (qI a), some (qI b), some (qI hz), some (qI c), some (qI (n0 : Int)), some (qI w), some (qI v), some (qI (gPA m w v))]) (st' := [qI (gPA m w v), qI v, qR 2, qI (m 3 ((w * 5 + (gPA m w v)).toNat))]) rfl ?_
              refine qJ.callV (As := [qI v, qI (gPA m w v)]) (rest := [qI (m 3 ((w * 5 + (gPA m w v)).toNat))]) hκ rfl kX1_57 (c_signAt u m y v (gPA m w v) (by omega)) rfl rfl (by decide) rfl rfl (Nat.le_of_ble_eq_true rfl) (Nat.le_of_ble_eq_true rfl) (Nat.le_of_ble_eq_true rfl) (Or.inl (fun r h' e => by obtain ⟨rfl, rfl⟩ := e; rfl)) (fun r h' e => ?_)
              obtain ⟨rfl, rfl⟩ := e
              show qJ YX1_pairsApartBy κ _ (qLy u, m, y) 0 0 62 [some (qR 2), some (qI a), some (qI b), some (qI hz), some (qI c), some (qI (n0 : Int)), some (qI w), some (qI v), some (qI (gPA m w v))] [qI (m 3 ((v * 5 + (gPA m w v)).toNat)), qI (m 3 ((w * 5 + (gPA m w v)).toNat))]
              refine qJ.run hκ 2 (pc' := 64) (ls' := [some (qR 2), some (qI a), some (qI b), some (qI hz), some (qI c), some (qI (n0 : Int)), some (qI w), some (qI v), some (qI (gPA m w v))]) (st' := [qI b, qI a, qI (m 3 ((v * 5 + (gPA m w v)).toNat)), qI (m 3 ((w * 5 + (gPA m w v)).toNat))]) rfl ?_
              refine qJ.callS (As := [qI (m 3 ((w * 5 + (gPA m w v)).toNat)), qI (m 3 ((v * 5 + (gPA m w v)).toNat)), qI a, qI b]) (rest := []) hκ rfl kX1_67 (c_arePair u m y (m 3 ((w * 5 + (gPA m w v)).toNat)) (m 3 ((v * 5 + (gPA m w v)).toNat)) a b (by omega) (by omega) (by omega) (by omega)) (by decide) rfl rfl (Nat.le_of_ble_eq_true rfl) (Nat.le_of_ble_eq_true rfl) (Nat.le_of_ble_eq_true rfl) (Or.inl (fun r h' e => by obtain ⟨rfl, rfl⟩ := e; rfl)) (fun r h' e => ?_)
              obtain ⟨rfl, rfl⟩ := e
              show qJ YX1_pairsApartBy κ _ (qLy u, m, y) 0 0 67 [some (qR 2), some (qI a), some (qI b), some (qI hz), some (qI c), some (qI (n0 : Int)), some (qI w), some (qI v), some (qI (gPA m w v))] [qI (if (m 3 ((w * 5 + (gPA m w v)).toNat)) = a ∧ (m 3 ((v * 5 + (gPA m w v)).toNat)) = b ∨ (m 3 ((w * 5 + (gPA m w v)).toNat)) = b ∧ (m 3 ((v * 5 + (gPA m w v)).toNat)) = a then 1 else 0)]
              have ite1 : ∀ P : Prop, ∀ [Decidable P], 0 ≤ (if P then (1 : Int) else 0) ∧ (if P then (1 : Int) else 0) ≤ 1 := fun P _ => by split <;> decide
              have it2 := ite1 (m 3 (w * 5 + gPA m w v).toNat = a ∧ m 3 (v * 5 + gPA m w v).toNat = b ∨ m 3 (w * 5 + gPA m w v).toNat = b ∧ m 3 (v * 5 + gPA m w v).toNat = a)
              refine qJ.if_eq hκ (tgt := 73) rfl rfl (by omega) (fun c67 => ?_) (fun c67 => ?_)
              · show qJ YX1_pairsApartBy κ _ (qLy u, m, y) 0 0 73 [some (qR 2), some (qI a), some (qI b), some (qI hz), some (qI c), some (qI (n0 : Int)), some (qI w), some (qI v), some (qI (gPA m w v))] []
                refine qJ.run hκ 2 (pc' := 23) (ls' := [some (qR 2), some (qI a), some (qI b), some (qI hz), some (qI c), some (qI (n0 : Int)), some (qI w), some (qI (v + 1)), some (qI (gPA m w v))]) (st' := []) rfl ?_
                refine qJ.dl [true, true, true, true, true, true, true, true, false] ?_
                show qJ YX1_pairsApartBy κ _ (qLy u, m, y) 0 0 23 [some (qR 2), some (qI a), some (qI b), some (qI hz), some (qI c), some (qI (n0 : Int)), some (qI w), some (qI (v + 1)), none] []
                exact ih23  c (v + 1) (by omega) (by omega) (by rw [q_cnt_s v23_0, if_neg (fun z => by have := ((gTw_i (by omega) v23_0).mp z).2; rw [if_pos this] at c67; omega), Nat.add_zero]; exact v23_2) (by omega) (by omega)
              · show qJ YX1_pairsApartBy κ _ (qLy u, m, y) 0 0 70 [some (qR 2), some (qI a), some (qI b), some (qI hz), some (qI c), some (qI (n0 : Int)), some (qI w), some (qI v), some (qI (gPA m w v))] []
                refine qJ.run hκ 3 (pc' := 23) (ls' := [some (qR 2), some (qI a), some (qI b), some (qI hz), some (qI (c + 1)), some (qI (n0 : Int)), some (qI w), some (qI (v + 1)), some (qI (gPA m w v))]) (st' := []) rfl ?_
                refine qJ.dl [true, true, true, true, true, true, true, true, false] ?_
                show qJ YX1_pairsApartBy κ _ (qLy u, m, y) 0 0 23 [some (qR 2), some (qI a), some (qI b), some (qI hz), some (qI (c + 1)), some (qI (n0 : Int)), some (qI w), some (qI (v + 1)), none] []
                exact ih23  (c + 1) (v + 1) (by omega) (by omega) (by rw [q_cnt_s v23_0, if_pos ((gTw_i (by omega) v23_0).mpr ⟨c43, by by_cases g : (m 3 (w * 5 + gPA m w v).toNat = a ∧ m 3 (v * 5 + gPA m w v).toNat = b ∨ m 3 (w * 5 + gPA m w v).toNat = b ∧ m 3 (v * 5 + gPA m w v).toNat = a); exact g; rw [if_neg g] at c67; exact absurd rfl c67⟩)]; omega) (by omega) (by omega)
      refine qJ.run hκ 2 (pc' := 17) (ls' := [some (qR 2), some (qI a), some (qI b), some (qI hz), some (qI c), some (qI (n0 : Int)), some (qI w), none, none]) (st' := [qI (n0 : Int), qI w]) rfl ?_
      refine qJ.icmp_ge hκ (tgt := 85) rfl rfl (by omega) (by omega) (fun c17 => ?_) (fun c17 => ?_)
      · show qJ YX1_pairsApartBy κ _ (qLy u, m, y) 0 0 85 [some (qR 2), some (qI a), some (qI b), some (qI hz), some (qI c), some (qI (n0 : Int)), some (qI w), none, none] []
        refine qJ.run hκ 1 (pc' := 87) (ls' := [some (qR 2), some (qI a), some (qI b), some (qI hz), some (qI c), some (qI (n0 : Int)), some (qI w), none, none]) (st' := [qI c]) rfl ?_
        exact qJ.iret hκ rfl rfl (by decide) (by decide) (by refine ⟨?_, rfl⟩; rcases v13_1 with g | g; rw [v13_2, show w.toNat = n0 by omega]; rw [v13_2, gTn_1 _ (by omega), gTn_1 _ (by omega)])
      · show qJ YX1_pairsApartBy κ _ (qLy u, m, y) 0 0 20 [some (qR 2), some (qI a), some (qI b), some (qI hz), some (qI c), some (qI (n0 : Int)), some (qI w), none, none] []
        refine qJ.run hκ 2 (pc' := 23) (ls' := [some (qR 2), some (qI a), some (qI b), some (qI hz), some (qI c), some (qI (n0 : Int)), some (qI w), some (qI 0), none]) (st' := []) rfl ?_
        exact L23 (w.toNat + 1) c 0 (by omega) (by omega) (by rw [v13_2]; show _ = _ + ((0 : Nat) : Int); omega) (by omega) (by omega)
  show qJ YX1_pairsApartBy κ _ (qLy u, m, y) 0 0 0 [some (qR 2), some (qI a), some (qI b), some (qI hz), none, none, none, none, none] []
  refine qJ.run hκ 4 (pc' := 5) (ls' := [some (qR 2), some (qI a), some (qI b), some (qI hz), some (qI 0), none, none, none, none]) (st' := [qI hz, qR 2]) rfl ?_
  refine qJ.callV (As := [qI hz]) (rest := []) hκ rfl kX1_61 (hp ▸ c_seenWords u m y hz h0 h1 hS7) rfl rfl (by decide) rfl rfl (Nat.le_of_ble_eq_true rfl) (Nat.le_of_ble_eq_true rfl) (Nat.le_of_ble_eq_true rfl) (Or.inl (fun r h' e => by obtain ⟨rfl, rfl⟩ := e; rfl)) (fun r h' e => ?_)
  obtain ⟨rfl, rfl⟩ := e
  show qJ YX1_pairsApartBy κ _ (qLy u, m, y) 0 0 8 [some (qR 2), some (qI a), some (qI b), some (qI hz), some (qI 0), none, none, none, none] [qI (n0 : Int)]
  refine qJ.run hκ 3 (pc' := 13) (ls' := [some (qR 2), some (qI a), some (qI b), some (qI hz), some (qI 0), some (qI (n0 : Int)), some (qI 1), none, none]) (st' := []) rfl ?_
  exact L13 (n0 + 1) 0 1 (by omega) (by omega) ((gTn_1 _ (Nat.le_of_ble_eq_true rfl)).symm) (by omega)
