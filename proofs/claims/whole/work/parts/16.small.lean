/-! printed by p16.py: small methods -/
theorem q_r32 (x : Int32) : qr x.toInt := by
  have h1 := Int32.le_toInt x
  have h2 := Int32.toInt_lt x
  constructor <;> omega
theorem q_and_r (x y : Int) : qr (q_and x y) := q_r32 _
theorem q_or_r (x y : Int) : qr (q_or x y) := q_r32 _
theorem q_shl_r (x y : Int) : qr (q_shl x y) := q_r32 _
theorem q_shr_r (x y : Int) : qr (q_shr x y) := q_r32 _

/-- the last day that is seen -/
def gHz (m : qM) : Int := if m 1 9 = -1 then m 1 8 else m 1 9

set_option maxRecDepth 100000 in
theorem c_horizon (u : qU) (m y : qM) (h0 : qr (m 1 9)) : qCt YX9_horizon 1 0 0 [qR 1] (qLy u, m, y) (fun r h => r = some (qI (gHz m)) ∧ h = (qLy u, m, y)) := by
  refine qCt.intro okX9_horizon (Nat.le_of_ble_eq_true rfl) (fun κ hκ => ?_)
  show qJ YX9_horizon κ _ (qLy u, m, y) 0 0 0 [some (qR 1)] []
  refine qJ.run hκ 3 (pc' := 5) (ls' := [some (qR 1)]) (st' := [qI (-1), qI (m 1 9)]) rfl ?_
  refine qJ.icmp_ne hκ (tgt := 15) rfl rfl (by omega) (by omega) (fun c5 => ?_) (fun c5 => ?_)
  · show qJ YX9_horizon κ _ (qLy u, m, y) 0 0 15 [some (qR 1)] []
    refine qJ.run hκ 2 (pc' := 19) (ls' := [some (qR 1)]) (st' := [qI (m 1 9)]) rfl ?_
    exact qJ.iret hκ rfl rfl (by decide) (by decide) (by refine ⟨?_, rfl⟩; unfold gHz; first | rw [if_pos (by omega)] | rw [if_neg (by omega)])
  · show qJ YX9_horizon κ _ (qLy u, m, y) 0 0 8 [some (qR 1)] []
    refine qJ.run hκ 3 (pc' := 19) (ls' := [some (qR 1)]) (st' := [qI (m 1 8)]) rfl ?_
    exact qJ.iret hκ rfl rfl (by decide) (by decide) (by refine ⟨?_, rfl⟩; unfold gHz; first | rw [if_pos (by omega)] | rw [if_neg (by omega)])

set_option maxRecDepth 100000 in
theorem c_takeTape (u : qU) (m y : qM)  : qCt YX9_takeTape 1 0 0 [qR 1] (qLy u, m, y) (fun r h => r = some (qI (m 1 4)) ∧ h = (qLy u, q_up m 1 4 0, y)) := by
  refine qCt.intro okX9_takeTape (Nat.le_of_ble_eq_true rfl) (fun κ hκ => ?_)
  show qJ YX9_takeTape κ _ (qLy u, m, y) 0 0 0 [some (qR 1), none] []
  refine qJ.run hκ 5 (pc' := 7) (ls' := [some (qR 1), some (qI (m 1 4))]) (st' := [qI 0, qR 1]) rfl ?_
  refine qJ.putI hκ rfl rfl rfl rfl (Or.inl rfl) ?_
  show qJ YX9_takeTape κ _ (qLy u, (q_up m 1 4 0), y) 0 0 10 [some (qR 1), some (qI (m 1 4))] []
  refine qJ.run hκ 1 (pc' := 11) (ls' := [some (qR 1), some (qI (m 1 4))]) (st' := [qI (m 1 4)]) rfl ?_
  exact qJ.iret hκ rfl rfl (by decide) (by decide) (by first | exact ⟨rfl, rfl⟩ | (refine ⟨?_, rfl⟩; first | rfl | omega))

set_option maxRecDepth 100000 in
theorem c_setFault (u : qU) (m y : qM) (a b : Int)  : qCt YX9_setFault 1 0 0 [qR 1, qI a, qI b] (qLy u, m, y) (fun r h => r = none ∧ h = (qLy u, q_up (q_up m 1 5 a) 1 6 b, y)) := by
  refine qCt.intro okX9_setFault (Nat.le_of_ble_eq_true rfl) (fun κ hκ => ?_)
  show qJ YX9_setFault κ _ (qLy u, m, y) 0 0 0 [some (qR 1), some (qI a), some (qI b)] []
  refine qJ.run hκ 2 (pc' := 2) (ls' := [some (qR 1), some (qI a), some (qI b)]) (st' := [qI a, qR 1]) rfl ?_
  refine qJ.putI hκ rfl rfl rfl rfl (Or.inl rfl) ?_
  show qJ YX9_setFault κ _ (qLy u, (q_up m 1 5 a), y) 0 0 5 [some (qR 1), some (qI a), some (qI b)] []
  refine qJ.run hκ 2 (pc' := 7) (ls' := [some (qR 1), some (qI a), some (qI b)]) (st' := [qI b, qR 1]) rfl ?_
  refine qJ.putI hκ rfl rfl rfl rfl (Or.inl rfl) ?_
  show qJ YX9_setFault κ _ (qLy u, (q_up (q_up m 1 5 a) 1 6 b), y) 0 0 10 [some (qR 1), some (qI a), some (qI b)] []
  exact qJ.vret hκ rfl rfl (by decide) (by decide) (by first | exact ⟨rfl, rfl⟩ | (refine ⟨?_, rfl⟩; first | rfl | omega))

set_option maxRecDepth 100000 in
theorem c_append (u : qU) (m y : qM) (v : Int) (h0 : 0 ≤ m 1 4 ∧ m 1 4 + 4 ≤ 400) : qCt YX9_append 1 0 0 [qR 1, qI v] (qLy u, m, y) (fun r h => r = none ∧ h = (qLy u, (q_up (q_up (q_up (q_up (q_up (q_up (q_up (q_up m 21 ((m 1 4).toNat) (q_nar 1 (q_i2b (q_ushr v 24)))) 1 4 ((m 1 4) + 1)) 21 (((m 1 4) + 1).toNat) (q_nar 1 (q_i2b (q_ushr v 16)))) 1 4 (((m 1 4) + 1) + 1)) 21 ((((m 1 4) + 1) + 1).toNat) (q_nar 1 (q_i2b (q_ushr v 8)))) 1 4 ((((m 1 4) + 1) + 1) + 1)) 21 (((((m 1 4) + 1) + 1) + 1).toNat) (q_nar 1 (q_i2b (q_ushr v 0)))) 1 4 (((((m 1 4) + 1) + 1) + 1) + 1)), y)) := by
  refine qCt.intro okX9_append (Nat.le_of_ble_eq_true rfl) (fun κ hκ => ?_)
  show qJ YX9_append κ _ (qLy u, m, y) 0 0 0 [some (qR 1), some (qI v), none] []
  refine qJ.run hκ 3 (pc' := 4) (ls' := [some (qR 1), some (qI v), some (qI 24)]) (st' := [qI 24]) rfl ?_
  refine qJ.if_lt hκ (tgt := 48) rfl rfl (by omega) (fun c4 => ?_) (fun c4 => ?_)
  · exact absurd c4 (by decide)
  · show qJ YX9_append κ _ (qLy u, m, y) 0 0 7 [some (qR 1), some (qI v), some (qI 24)] []
    refine qJ.run hκ 5 (pc' := 16) (ls' := [some (qR 1), some (qI v), some (qI 24)]) (st' := [qI 400, qI (m 1 4)]) rfl ?_
    refine qJ.icmp_ge hκ (tgt := 48) rfl rfl (by omega) (by omega) (fun c16 => ?_) (fun c16 => ?_)
    · show qJ YX9_append κ _ (qLy u, m, y) 0 0 48 [some (qR 1), some (qI v), some (qI 24)] []
      exfalso; omega
    · show qJ YX9_append κ _ (qLy u, m, y) 0 0 19 [some (qR 1), some (qI v), some (qI 24)] []
      refine qJ.run hκ 8 (pc' := 31) (ls' := [some (qR 1), some (qI v), some (qI 24)]) (st' := [qI (q_i2b (q_ushr v 24)), qI (m 1 4), qR 21]) rfl ?_
      refine qJ.ast hκ rfl rfl rfl (by decide) (by omega) ?_
      show qJ YX9_append κ _ (qLy u, (q_up m 21 ((m 1 4).toNat) (q_nar 1 (q_i2b (q_ushr v 24)))), y) 0 0 32 [some (qR 1), some (qI v), some (qI 24)] []
      refine qJ.run hκ 5 (pc' := 39) (ls' := [some (qR 1), some (qI v), some (qI 24)]) (st' := [qI ((m 1 4) + 1), qR 1]) rfl ?_
      refine qJ.putI hκ rfl rfl rfl rfl (Or.inl rfl) ?_
      show qJ YX9_append κ _ (qLy u, (q_up (q_up m 21 ((m 1 4).toNat) (q_nar 1 (q_i2b (q_ushr v 24)))) 1 4 ((m 1 4) + 1)), y) 0 0 42 [some (qR 1), some (qI v), some (qI 24)] []
      refine qJ.run hκ 3 (pc' := 4) (ls' := [some (qR 1), some (qI v), some (qI 16)]) (st' := [qI 16]) rfl ?_
      refine qJ.if_lt hκ (tgt := 48) rfl rfl (by omega) (fun c4 => ?_) (fun c4 => ?_)
      · exact absurd c4 (by decide)
      · show qJ YX9_append κ _ (qLy u, (q_up (q_up m 21 ((m 1 4).toNat) (q_nar 1 (q_i2b (q_ushr v 24)))) 1 4 ((m 1 4) + 1)), y) 0 0 7 [some (qR 1), some (qI v), some (qI 16)] []
        refine qJ.run hκ 5 (pc' := 16) (ls' := [some (qR 1), some (qI v), some (qI 16)]) (st' := [qI 400, qI ((m 1 4) + 1)]) rfl ?_
        refine qJ.icmp_ge hκ (tgt := 48) rfl rfl (by omega) (by omega) (fun c16 => ?_) (fun c16 => ?_)
        · show qJ YX9_append κ _ (qLy u, (q_up (q_up m 21 ((m 1 4).toNat) (q_nar 1 (q_i2b (q_ushr v 24)))) 1 4 ((m 1 4) + 1)), y) 0 0 48 [some (qR 1), some (qI v), some (qI 16)] []
          exfalso; omega
        · show qJ YX9_append κ _ (qLy u, (q_up (q_up m 21 ((m 1 4).toNat) (q_nar 1 (q_i2b (q_ushr v 24)))) 1 4 ((m 1 4) + 1)), y) 0 0 19 [some (qR 1), some (qI v), some (qI 16)] []
          refine qJ.run hκ 8 (pc' := 31) (ls' := [some (qR 1), some (qI v), some (qI 16)]) (st' := [qI (q_i2b (q_ushr v 16)), qI ((m 1 4) + 1), qR 21]) rfl ?_
          refine qJ.ast hκ rfl rfl rfl (by decide) (by omega) ?_
          show qJ YX9_append κ _ (qLy u, (q_up (q_up (q_up m 21 ((m 1 4).toNat) (q_nar 1 (q_i2b (q_ushr v 24)))) 1 4 ((m 1 4) + 1)) 21 (((m 1 4) + 1).toNat) (q_nar 1 (q_i2b (q_ushr v 16)))), y) 0 0 32 [some (qR 1), some (qI v), some (qI 16)] []
          refine qJ.run hκ 5 (pc' := 39) (ls' := [some (qR 1), some (qI v), some (qI 16)]) (st' := [qI (((m 1 4) + 1) + 1), qR 1]) rfl ?_
          refine qJ.putI hκ rfl rfl rfl rfl (Or.inl rfl) ?_
          show qJ YX9_append κ _ (qLy u, (q_up (q_up (q_up (q_up m 21 ((m 1 4).toNat) (q_nar 1 (q_i2b (q_ushr v 24)))) 1 4 ((m 1 4) + 1)) 21 (((m 1 4) + 1).toNat) (q_nar 1 (q_i2b (q_ushr v 16)))) 1 4 (((m 1 4) + 1) + 1)), y) 0 0 42 [some (qR 1), some (qI v), some (qI 16)] []
          refine qJ.run hκ 3 (pc' := 4) (ls' := [some (qR 1), some (qI v), some (qI 8)]) (st' := [qI 8]) rfl ?_
          refine qJ.if_lt hκ (tgt := 48) rfl rfl (by omega) (fun c4 => ?_) (fun c4 => ?_)
          · exact absurd c4 (by decide)
          · show qJ YX9_append κ _ (qLy u, (q_up (q_up (q_up (q_up m 21 ((m 1 4).toNat) (q_nar 1 (q_i2b (q_ushr v 24)))) 1 4 ((m 1 4) + 1)) 21 (((m 1 4) + 1).toNat) (q_nar 1 (q_i2b (q_ushr v 16)))) 1 4 (((m 1 4) + 1) + 1)), y) 0 0 7 [some (qR 1), some (qI v), some (qI 8)] []
            refine qJ.run hκ 5 (pc' := 16) (ls' := [some (qR 1), some (qI v), some (qI 8)]) (st' := [qI 400, qI (((m 1 4) + 1) + 1)]) rfl ?_
            refine qJ.icmp_ge hκ (tgt := 48) rfl rfl (by omega) (by omega) (fun c16 => ?_) (fun c16 => ?_)
            · show qJ YX9_append κ _ (qLy u, (q_up (q_up (q_up (q_up m 21 ((m 1 4).toNat) (q_nar 1 (q_i2b (q_ushr v 24)))) 1 4 ((m 1 4) + 1)) 21 (((m 1 4) + 1).toNat) (q_nar 1 (q_i2b (q_ushr v 16)))) 1 4 (((m 1 4) + 1) + 1)), y) 0 0 48 [some (qR 1), some (qI v), some (qI 8)] []
              exfalso; omega
            · show qJ YX9_append κ _ (qLy u, (q_up (q_up (q_up (q_up m 21 ((m 1 4).toNat) (q_nar 1 (q_i2b (q_ushr v 24)))) 1 4 ((m 1 4) + 1)) 21 (((m 1 4) + 1).toNat) (q_nar 1 (q_i2b (q_ushr v 16)))) 1 4 (((m 1 4) + 1) + 1)), y) 0 0 19 [some (qR 1), some (qI v), some (qI 8)] []
              refine qJ.run hκ 8 (pc' := 31) (ls' := [some (qR 1), some (qI v), some (qI 8)]) (st' := [qI (q_i2b (q_ushr v 8)), qI (((m 1 4) + 1) + 1), qR 21]) rfl ?_
              refine qJ.ast hκ rfl rfl rfl (by decide) (by omega) ?_
              show qJ YX9_append κ _ (qLy u, (q_up (q_up (q_up (q_up (q_up m 21 ((m 1 4).toNat) (q_nar 1 (q_i2b (q_ushr v 24)))) 1 4 ((m 1 4) + 1)) 21 (((m 1 4) + 1).toNat) (q_nar 1 (q_i2b (q_ushr v 16)))) 1 4 (((m 1 4) + 1) + 1)) 21 ((((m 1 4) + 1) + 1).toNat) (q_nar 1 (q_i2b (q_ushr v 8)))), y) 0 0 32 [some (qR 1), some (qI v), some (qI 8)] []
              refine qJ.run hκ 5 (pc' := 39) (ls' := [some (qR 1), some (qI v), some (qI 8)]) (st' := [qI ((((m 1 4) + 1) + 1) + 1), qR 1]) rfl ?_
              refine qJ.putI hκ rfl rfl rfl rfl (Or.inl rfl) ?_
              show qJ YX9_append κ _ (qLy u, (q_up (q_up (q_up (q_up (q_up (q_up m 21 ((m 1 4).toNat) (q_nar 1 (q_i2b (q_ushr v 24)))) 1 4 ((m 1 4) + 1)) 21 (((m 1 4) + 1).toNat) (q_nar 1 (q_i2b (q_ushr v 16)))) 1 4 (((m 1 4) + 1) + 1)) 21 ((((m 1 4) + 1) + 1).toNat) (q_nar 1 (q_i2b (q_ushr v 8)))) 1 4 ((((m 1 4) + 1) + 1) + 1)), y) 0 0 42 [some (qR 1), some (qI v), some (qI 8)] []
              refine qJ.run hκ 3 (pc' := 4) (ls' := [some (qR 1), some (qI v), some (qI 0)]) (st' := [qI 0]) rfl ?_
              refine qJ.if_lt hκ (tgt := 48) rfl rfl (by omega) (fun c4 => ?_) (fun c4 => ?_)
              · exact absurd c4 (by decide)
              · show qJ YX9_append κ _ (qLy u, (q_up (q_up (q_up (q_up (q_up (q_up m 21 ((m 1 4).toNat) (q_nar 1 (q_i2b (q_ushr v 24)))) 1 4 ((m 1 4) + 1)) 21 (((m 1 4) + 1).toNat) (q_nar 1 (q_i2b (q_ushr v 16)))) 1 4 (((m 1 4) + 1) + 1)) 21 ((((m 1 4) + 1) + 1).toNat) (q_nar 1 (q_i2b (q_ushr v 8)))) 1 4 ((((m 1 4) + 1) + 1) + 1)), y) 0 0 7 [some (qR 1), some (qI v), some (qI 0)] []
                refine qJ.run hκ 5 (pc' := 16) (ls' := [some (qR 1), some (qI v), some (qI 0)]) (st' := [qI 400, qI ((((m 1 4) + 1) + 1) + 1)]) rfl ?_
                refine qJ.icmp_ge hκ (tgt := 48) rfl rfl (by omega) (by omega) (fun c16 => ?_) (fun c16 => ?_)
                · show qJ YX9_append κ _ (qLy u, (q_up (q_up (q_up (q_up (q_up (q_up m 21 ((m 1 4).toNat) (q_nar 1 (q_i2b (q_ushr v 24)))) 1 4 ((m 1 4) + 1)) 21 (((m 1 4) + 1).toNat) (q_nar 1 (q_i2b (q_ushr v 16)))) 1 4 (((m 1 4) + 1) + 1)) 21 ((((m 1 4) + 1) + 1).toNat) (q_nar 1 (q_i2b (q_ushr v 8)))) 1 4 ((((m 1 4) + 1) + 1) + 1)), y) 0 0 48 [some (qR 1), some (qI v), some (qI 0)] []
                  exfalso; omega
                · show qJ YX9_append κ _ (qLy u, (q_up (q_up (q_up (q_up (q_up (q_up m 21 ((m 1 4).toNat) (q_nar 1 (q_i2b (q_ushr v 24)))) 1 4 ((m 1 4) + 1)) 21 (((m 1 4) + 1).toNat) (q_nar 1 (q_i2b (q_ushr v 16)))) 1 4 (((m 1 4) + 1) + 1)) 21 ((((m 1 4) + 1) + 1).toNat) (q_nar 1 (q_i2b (q_ushr v 8)))) 1 4 ((((m 1 4) + 1) + 1) + 1)), y) 0 0 19 [some (qR 1), some (qI v), some (qI 0)] []
                  refine qJ.run hκ 8 (pc' := 31) (ls' := [some (qR 1), some (qI v), some (qI 0)]) (st' := [qI (q_i2b (q_ushr v 0)), qI ((((m 1 4) + 1) + 1) + 1), qR 21]) rfl ?_
                  refine qJ.ast hκ rfl rfl rfl (by decide) (by omega) ?_
                  show qJ YX9_append κ _ (qLy u, (q_up (q_up (q_up (q_up (q_up (q_up (q_up m 21 ((m 1 4).toNat) (q_nar 1 (q_i2b (q_ushr v 24)))) 1 4 ((m 1 4) + 1)) 21 (((m 1 4) + 1).toNat) (q_nar 1 (q_i2b (q_ushr v 16)))) 1 4 (((m 1 4) + 1) + 1)) 21 ((((m 1 4) + 1) + 1).toNat) (q_nar 1 (q_i2b (q_ushr v 8)))) 1 4 ((((m 1 4) + 1) + 1) + 1)) 21 (((((m 1 4) + 1) + 1) + 1).toNat) (q_nar 1 (q_i2b (q_ushr v 0)))), y) 0 0 32 [some (qR 1), some (qI v), some (qI 0)] []
                  refine qJ.run hκ 5 (pc' := 39) (ls' := [some (qR 1), some (qI v), some (qI 0)]) (st' := [qI (((((m 1 4) + 1) + 1) + 1) + 1), qR 1]) rfl ?_
                  refine qJ.putI hκ rfl rfl rfl rfl (Or.inl rfl) ?_
                  show qJ YX9_append κ _ (qLy u, (q_up (q_up (q_up (q_up (q_up (q_up (q_up (q_up m 21 ((m 1 4).toNat) (q_nar 1 (q_i2b (q_ushr v 24)))) 1 4 ((m 1 4) + 1)) 21 (((m 1 4) + 1).toNat) (q_nar 1 (q_i2b (q_ushr v 16)))) 1 4 (((m 1 4) + 1) + 1)) 21 ((((m 1 4) + 1) + 1).toNat) (q_nar 1 (q_i2b (q_ushr v 8)))) 1 4 ((((m 1 4) + 1) + 1) + 1)) 21 (((((m 1 4) + 1) + 1) + 1).toNat) (q_nar 1 (q_i2b (q_ushr v 0)))) 1 4 (((((m 1 4) + 1) + 1) + 1) + 1)), y) 0 0 42 [some (qR 1), some (qI v), some (qI 0)] []
                  refine qJ.run hκ 3 (pc' := 4) (ls' := [some (qR 1), some (qI v), some (qI (-8))]) (st' := [qI (-8)]) rfl ?_
                  refine qJ.if_lt hκ (tgt := 48) rfl rfl (by omega) (fun c4 => ?_) (fun c4 => ?_)
                  · show qJ YX9_append κ _ (qLy u, (q_up (q_up (q_up (q_up (q_up (q_up (q_up (q_up m 21 ((m 1 4).toNat) (q_nar 1 (q_i2b (q_ushr v 24)))) 1 4 ((m 1 4) + 1)) 21 (((m 1 4) + 1).toNat) (q_nar 1 (q_i2b (q_ushr v 16)))) 1 4 (((m 1 4) + 1) + 1)) 21 ((((m 1 4) + 1) + 1).toNat) (q_nar 1 (q_i2b (q_ushr v 8)))) 1 4 ((((m 1 4) + 1) + 1) + 1)) 21 (((((m 1 4) + 1) + 1) + 1).toNat) (q_nar 1 (q_i2b (q_ushr v 0)))) 1 4 (((((m 1 4) + 1) + 1) + 1) + 1)), y) 0 0 48 [some (qR 1), some (qI v), some (qI (-8))] []
                    exact qJ.vret hκ rfl rfl (by decide) (by decide) (by first | exact ⟨rfl, rfl⟩ | (refine ⟨?_, rfl⟩; first | rfl | omega))
                  · exact absurd c4 (by decide)

set_option maxRecDepth 100000 in
theorem c_lRoom (u : qU) (m y : qM) (a b : Int) (h0 : 0 ≤ m 12 1 ∧ m 12 1 ≤ 512) (h1 : 0 ≤ a ∧ a < 10) (h2 : b = 0 ∨ b = 1) (h3 : qr (m 14 a.toNat)) : qCt YX3_hasRoomFor 1 0 0 [qR 12, qI a, qI b] (qLy u, m, y) (fun r h => r = some (qI (if m 12 1 < 512 ∧ (¬ b = 0 ∨ m 14 a.toNat < 6) then 1 else 0)) ∧ h = (qLy u, m, y)) := by
  refine qCt.intro okX3_hasRoomFor (Nat.le_of_ble_eq_true rfl) (fun κ hκ => ?_)
  show qJ YX3_hasRoomFor κ _ (qLy u, m, y) 0 0 0 [some (qR 12), some (qI a), some (qI b)] []
  refine qJ.run hκ 3 (pc' := 7) (ls' := [some (qR 12), some (qI a), some (qI b)]) (st' := [qI 512, qI (m 12 1)]) rfl ?_
  refine qJ.icmp_ge hκ (tgt := 29) rfl rfl (by omega) (by omega) (fun c7 => ?_) (fun c7 => ?_)
  · show qJ YX3_hasRoomFor κ _ (qLy u, m, y) 0 0 29 [some (qR 12), some (qI a), some (qI b)] []
    refine qJ.run hκ 1 (pc' := 30) (ls' := [some (qR 12), some (qI a), some (qI b)]) (st' := [qI 0]) rfl ?_
    exact qJ.bret hκ rfl rfl (by omega) (by decide) (by decide) (by refine ⟨?_, rfl⟩; congr 2; split <;> omega)
  · show qJ YX3_hasRoomFor κ _ (qLy u, m, y) 0 0 10 [some (qR 12), some (qI a), some (qI b)] []
    refine qJ.run hκ 1 (pc' := 11) (ls' := [some (qR 12), some (qI a), some (qI b)]) (st' := [qI b]) rfl ?_
    refine qJ.if_ne hκ (tgt := 25) rfl rfl (by omega) (fun c11 => ?_) (fun c11 => ?_)
    · show qJ YX3_hasRoomFor κ _ (qLy u, m, y) 0 0 25 [some (qR 12), some (qI a), some (qI b)] []
      refine qJ.run hκ 2 (pc' := 30) (ls' := [some (qR 12), some (qI a), some (qI b)]) (st' := [qI 1]) rfl ?_
      exact qJ.bret hκ rfl rfl (by omega) (by decide) (by decide) (by refine ⟨?_, rfl⟩; congr 2; split <;> omega)
    · show qJ YX3_hasRoomFor κ _ (qLy u, m, y) 0 0 14 [some (qR 12), some (qI a), some (qI b)] []
      refine qJ.run hκ 3 (pc' := 19) (ls' := [some (qR 12), some (qI a), some (qI b)]) (st' := [qI a, qR 14]) rfl ?_
      refine qJ.ald hκ rfl rfl rfl (by decide) (by omega) ?_
      show qJ YX3_hasRoomFor κ _ (qLy u, m, y) 0 0 20 [some (qR 12), some (qI a), some (qI b)] [qI (m 14 a.toNat)]
      refine qJ.run hκ 1 (pc' := 22) (ls' := [some (qR 12), some (qI a), some (qI b)]) (st' := [qI 6, qI (m 14 a.toNat)]) rfl ?_
      refine qJ.icmp_ge hκ (tgt := 29) rfl rfl (by omega) (by omega) (fun c22 => ?_) (fun c22 => ?_)
      · show qJ YX3_hasRoomFor κ _ (qLy u, m, y) 0 0 29 [some (qR 12), some (qI a), some (qI b)] []
        refine qJ.run hκ 1 (pc' := 30) (ls' := [some (qR 12), some (qI a), some (qI b)]) (st' := [qI 0]) rfl ?_
        exact qJ.bret hκ rfl rfl (by omega) (by decide) (by decide) (by refine ⟨?_, rfl⟩; congr 2; split <;> omega)
      · show qJ YX3_hasRoomFor κ _ (qLy u, m, y) 0 0 25 [some (qR 12), some (qI a), some (qI b)] []
        refine qJ.run hκ 2 (pc' := 30) (ls' := [some (qR 12), some (qI a), some (qI b)]) (st' := [qI 1]) rfl ?_
        exact qJ.bret hκ rfl rfl (by omega) (by decide) (by decide) (by refine ⟨?_, rfl⟩; congr 2; split <;> omega)

set_option maxRecDepth 100000 in
theorem c_lAdd (u : qU) (m y : qM) (a b dy c : Int) (h0 : 0 ≤ m 12 1 ∧ m 12 1 < 512) (h1 : 0 ≤ a ∧ a < 10) (h2 : b = 0 ∨ b = 1) : qCt YX3_add 1 0 0 [qR 12, qI a, qI b, qI dy, qI c] (qLy u, m, y) (fun r h => r = none ∧ h = (qLy u, if b = 0 then q_up (q_up (q_up m 13 (m 12 1).toNat (q_or (q_or (q_or c (q_shl a 16)) (q_shl b 20)) (q_shl dy 21))) 12 1 (m 12 1 + 1)) 14 a.toNat (m 14 a.toNat + 1) else q_up (q_up m 13 (m 12 1).toNat (q_or (q_or (q_or c (q_shl a 16)) (q_shl b 20)) (q_shl dy 21))) 12 1 (m 12 1 + 1), y)) := by
  refine qCt.intro okX3_add (Nat.le_of_ble_eq_true rfl) (fun κ hκ => ?_)
  show qJ YX3_add κ _ (qLy u, m, y) 0 0 0 [some (qR 12), some (qI a), some (qI b), some (qI dy), some (qI c), none] []
  refine qJ.run hκ 1 (pc' := 1) (ls' := [some (qR 12), some (qI a), some (qI b), some (qI dy), some (qI c), none]) (st' := [qI b]) rfl ?_
  refine qJ.if_eq hκ (tgt := 8) rfl rfl (by omega) (fun c1 => ?_) (fun c1 => ?_)
  · show qJ YX3_add κ _ (qLy u, m, y) 0 0 8 [some (qR 12), some (qI a), some (qI b), some (qI dy), some (qI c), none] []
    refine qJ.run hκ 19 (pc' := 37) (ls' := [some (qR 12), some (qI a), some (qI b), some (qI dy), some (qI c), some (qI 0)]) (st' := [qI (q_or (q_or (q_or c (q_shl a 16)) (q_shl 0 20)) (q_shl dy 21)), qI (m 12 1), qR 13]) rfl ?_
    refine qJ.ast hκ rfl rfl rfl (by decide) (by omega) ?_
    show qJ YX3_add κ _ (qLy u, (q_up m 13 ((m 12 1).toNat) (q_or (q_or (q_or c (q_shl a 16)) (q_shl 0 20)) (q_shl dy 21))), y) 0 0 38 [some (qR 12), some (qI a), some (qI b), some (qI dy), some (qI c), some (qI 0)] []
    refine qJ.run hκ 5 (pc' := 45) (ls' := [some (qR 12), some (qI a), some (qI b), some (qI dy), some (qI c), some (qI 0)]) (st' := [qI ((m 12 1) + 1), qR 12]) rfl ?_
    refine qJ.putI hκ rfl rfl rfl rfl (Or.inl rfl) ?_
    show qJ YX3_add κ _ (qLy u, (q_up (q_up m 13 ((m 12 1).toNat) (q_or (q_or (q_or c (q_shl a 16)) (q_shl 0 20)) (q_shl dy 21))) 12 1 ((m 12 1) + 1)), y) 0 0 48 [some (qR 12), some (qI a), some (qI b), some (qI dy), some (qI c), some (qI 0)] []
    refine qJ.run hκ 1 (pc' := 49) (ls' := [some (qR 12), some (qI a), some (qI b), some (qI dy), some (qI c), some (qI 0)]) (st' := [qI b]) rfl ?_
    refine qJ.if_ne hκ (tgt := 62) rfl rfl (by omega) (fun c49 => ?_) (fun c49 => ?_)
    · show qJ YX3_add κ _ (qLy u, (q_up (q_up m 13 ((m 12 1).toNat) (q_or (q_or (q_or c (q_shl a 16)) (q_shl 0 20)) (q_shl dy 21))) 12 1 ((m 12 1) + 1)), y) 0 0 62 [some (qR 12), some (qI a), some (qI b), some (qI dy), some (qI c), some (qI 0)] []
      exact qJ.vret hκ rfl rfl (by decide) (by decide) (by rcases h2 with rfl | rfl <;> first | exact ⟨rfl, rfl⟩ | exact absurd rfl c1 | exact absurd c1 (by decide) | exact absurd rfl c49 | exact absurd c49 (by decide))
    · show qJ YX3_add κ _ (qLy u, (q_up (q_up m 13 ((m 12 1).toNat) (q_or (q_or (q_or c (q_shl a 16)) (q_shl 0 20)) (q_shl dy 21))) 12 1 ((m 12 1) + 1)), y) 0 0 52 [some (qR 12), some (qI a), some (qI b), some (qI dy), some (qI c), some (qI 0)] []
      refine qJ.run hκ 4 (pc' := 58) (ls' := [some (qR 12), some (qI a), some (qI b), some (qI dy), some (qI c), some (qI 0)]) (st' := [qI a, qR 14, qI a, qR 14]) rfl ?_
      refine qJ.ald hκ rfl rfl rfl (by decide) (by omega) ?_
      show qJ YX3_add κ _ (qLy u, (q_up (q_up m 13 ((m 12 1).toNat) (q_or (q_or (q_or c (q_shl a 16)) (q_shl 0 20)) (q_shl dy 21))) 12 1 ((m 12 1) + 1)), y) 0 0 59 [some (qR 12), some (qI a), some (qI b), some (qI dy), some (qI c), some (qI 0)] [qI (m 14 a.toNat), qI a, qR 14]
      refine qJ.run hκ 2 (pc' := 61) (ls' := [some (qR 12), some (qI a), some (qI b), some (qI dy), some (qI c), some (qI 0)]) (st' := [qI ((m 14 a.toNat) + 1), qI a, qR 14]) rfl ?_
      refine qJ.ast hκ rfl rfl rfl (by decide) (by omega) ?_
      show qJ YX3_add κ _ (qLy u, (q_up (q_up (q_up m 13 ((m 12 1).toNat) (q_or (q_or (q_or c (q_shl a 16)) (q_shl 0 20)) (q_shl dy 21))) 12 1 ((m 12 1) + 1)) 14 a.toNat ((m 14 a.toNat) + 1)), y) 0 0 62 [some (qR 12), some (qI a), some (qI b), some (qI dy), some (qI c), some (qI 0)] []
      exact qJ.vret hκ rfl rfl (by decide) (by decide) (by rcases h2 with rfl | rfl <;> first | exact ⟨rfl, rfl⟩ | exact absurd rfl c1 | exact absurd c1 (by decide) | exact absurd rfl c49 | exact absurd c49 (by decide))
  · show qJ YX3_add κ _ (qLy u, m, y) 0 0 4 [some (qR 12), some (qI a), some (qI b), some (qI dy), some (qI c), none] []
    refine qJ.run hκ 20 (pc' := 37) (ls' := [some (qR 12), some (qI a), some (qI b), some (qI dy), some (qI c), some (qI 1)]) (st' := [qI (q_or (q_or (q_or c (q_shl a 16)) (q_shl 1 20)) (q_shl dy 21)), qI (m 12 1), qR 13]) rfl ?_
    refine qJ.ast hκ rfl rfl rfl (by decide) (by omega) ?_
    show qJ YX3_add κ _ (qLy u, (q_up m 13 ((m 12 1).toNat) (q_or (q_or (q_or c (q_shl a 16)) (q_shl 1 20)) (q_shl dy 21))), y) 0 0 38 [some (qR 12), some (qI a), some (qI b), some (qI dy), some (qI c), some (qI 1)] []
    refine qJ.run hκ 5 (pc' := 45) (ls' := [some (qR 12), some (qI a), some (qI b), some (qI dy), some (qI c), some (qI 1)]) (st' := [qI ((m 12 1) + 1), qR 12]) rfl ?_
    refine qJ.putI hκ rfl rfl rfl rfl (Or.inl rfl) ?_
    show qJ YX3_add κ _ (qLy u, (q_up (q_up m 13 ((m 12 1).toNat) (q_or (q_or (q_or c (q_shl a 16)) (q_shl 1 20)) (q_shl dy 21))) 12 1 ((m 12 1) + 1)), y) 0 0 48 [some (qR 12), some (qI a), some (qI b), some (qI dy), some (qI c), some (qI 1)] []
    refine qJ.run hκ 1 (pc' := 49) (ls' := [some (qR 12), some (qI a), some (qI b), some (qI dy), some (qI c), some (qI 1)]) (st' := [qI b]) rfl ?_
    refine qJ.if_ne hκ (tgt := 62) rfl rfl (by omega) (fun c49 => ?_) (fun c49 => ?_)
    · show qJ YX3_add κ _ (qLy u, (q_up (q_up m 13 ((m 12 1).toNat) (q_or (q_or (q_or c (q_shl a 16)) (q_shl 1 20)) (q_shl dy 21))) 12 1 ((m 12 1) + 1)), y) 0 0 62 [some (qR 12), some (qI a), some (qI b), some (qI dy), some (qI c), some (qI 1)] []
      exact qJ.vret hκ rfl rfl (by decide) (by decide) (by rcases h2 with rfl | rfl <;> first | exact ⟨rfl, rfl⟩ | exact absurd rfl c1 | exact absurd c1 (by decide) | exact absurd rfl c49 | exact absurd c49 (by decide))
    · show qJ YX3_add κ _ (qLy u, (q_up (q_up m 13 ((m 12 1).toNat) (q_or (q_or (q_or c (q_shl a 16)) (q_shl 1 20)) (q_shl dy 21))) 12 1 ((m 12 1) + 1)), y) 0 0 52 [some (qR 12), some (qI a), some (qI b), some (qI dy), some (qI c), some (qI 1)] []
      refine qJ.run hκ 4 (pc' := 58) (ls' := [some (qR 12), some (qI a), some (qI b), some (qI dy), some (qI c), some (qI 1)]) (st' := [qI a, qR 14, qI a, qR 14]) rfl ?_
      refine qJ.ald hκ rfl rfl rfl (by decide) (by omega) ?_
      show qJ YX3_add κ _ (qLy u, (q_up (q_up m 13 ((m 12 1).toNat) (q_or (q_or (q_or c (q_shl a 16)) (q_shl 1 20)) (q_shl dy 21))) 12 1 ((m 12 1) + 1)), y) 0 0 59 [some (qR 12), some (qI a), some (qI b), some (qI dy), some (qI c), some (qI 1)] [qI (m 14 a.toNat), qI a, qR 14]
      refine qJ.run hκ 2 (pc' := 61) (ls' := [some (qR 12), some (qI a), some (qI b), some (qI dy), some (qI c), some (qI 1)]) (st' := [qI ((m 14 a.toNat) + 1), qI a, qR 14]) rfl ?_
      refine qJ.ast hκ rfl rfl rfl (by decide) (by omega) ?_
      show qJ YX3_add κ _ (qLy u, (q_up (q_up (q_up m 13 ((m 12 1).toNat) (q_or (q_or (q_or c (q_shl a 16)) (q_shl 1 20)) (q_shl dy 21))) 12 1 ((m 12 1) + 1)) 14 a.toNat ((m 14 a.toNat) + 1)), y) 0 0 62 [some (qR 12), some (qI a), some (qI b), some (qI dy), some (qI c), some (qI 1)] []
      exact qJ.vret hκ rfl rfl (by decide) (by decide) (by rcases h2 with rfl | rfl <;> first | exact ⟨rfl, rfl⟩ | exact absurd rfl c1 | exact absurd c1 (by decide) | exact absurd rfl c49 | exact absurd c49 (by decide))

set_option maxRecDepth 100000 in
theorem c_seenRows (u : qU) (m y : qM) (hz : Int) (h0 : 0 ≤ m 12 1 ∧ m 12 1 ≤ 512) (h1 : qr hz) : qCt YX3_seenRows 1 0 0 [qR 12, qI hz] (qLy u, m, y) (fun r h => r = some (qI (q_pfx (fun k => q_shr (m 13 k) 21) hz (m 12 1).toNat : Nat)) ∧ h = (qLy u, m, y)) := by
  refine qCt.intro okX3_seenRows (Nat.le_of_ble_eq_true rfl) (fun κ hκ => ?_)
  have L2 : ∀ (n : Nat) (i : Int), (0 ≤ i) → (i ≤ m 12 1) → (q_pfx (fun k => q_shr (m 13 k) 21) hz i.toNat = i.toNat) → ((m 12 1 - i).toNat) < n → qJ YX3_seenRows κ (qFin (fun r h => r = some (qI (q_pfx (fun k => q_shr (m 13 k) 21) hz (m 12 1).toNat : Nat)) ∧ h = (qLy u, m, y)) 0 0 κ) (qLy u, m, y) 0 0 2 [some (qR 12), some (qI hz), some (qI i)] [] := by
    intro n
    induction n with
    | zero => intro i _ _ _ hz0; omega
    | succ n ih2 =>
      intro i v2_0 v2_1 v2_2 v2_m
      refine qJ.run hκ 3 (pc' := 7) (ls' := [some (qR 12), some (qI hz), some (qI i)]) (st' := [qI (m 12 1), qI i]) rfl ?_
      refine qJ.icmp_ge hκ (tgt := 29) rfl rfl (by omega) (by omega) (fun c7 => ?_) (fun c7 => ?_)
      · show qJ YX3_seenRows κ _ (qLy u, m, y) 0 0 29 [some (qR 12), some (qI hz), some (qI i)] []
        refine qJ.run hκ 1 (pc' := 30) (ls' := [some (qR 12), some (qI hz), some (qI i)]) (st' := [qI i]) rfl ?_
        exact qJ.iret hκ rfl rfl (by decide) (by decide) (by first | exact ⟨by rw [q_pfx_stop v2_2 (by omega) _ (by omega)]; congr 2; omega, rfl⟩ | exact ⟨by rw [show (m 12 1).toNat = i.toNat by omega, v2_2]; congr 2; omega, rfl⟩)
      · show qJ YX3_seenRows κ _ (qLy u, m, y) 0 0 10 [some (qR 12), some (qI hz), some (qI i)] []
        refine qJ.run hκ 3 (pc' := 15) (ls' := [some (qR 12), some (qI hz), some (qI i)]) (st' := [qI i, qR 13]) rfl ?_
        refine qJ.ald hκ rfl rfl rfl (by decide) (by omega) ?_
        show qJ YX3_seenRows κ _ (qLy u, m, y) 0 0 16 [some (qR 12), some (qI hz), some (qI i)] [qI (m 13 i.toNat)]
        refine qJ.run hκ 3 (pc' := 20) (ls' := [some (qR 12), some (qI hz), some (qI i)]) (st' := [qI hz, qI (q_shr (m 13 i.toNat) 21)]) rfl ?_
        have q1 := q_shr_r (m 13 i.toNat) 21
        refine qJ.icmp_gt hκ (tgt := 29) rfl rfl (by omega) (by omega) (fun c20 => ?_) (fun c20 => ?_)
        · show qJ YX3_seenRows κ _ (qLy u, m, y) 0 0 29 [some (qR 12), some (qI hz), some (qI i)] []
          refine qJ.run hκ 1 (pc' := 30) (ls' := [some (qR 12), some (qI hz), some (qI i)]) (st' := [qI i]) rfl ?_
          exact qJ.iret hκ rfl rfl (by decide) (by decide) (by first | exact ⟨by rw [q_pfx_stop v2_2 (by omega) _ (by omega)]; congr 2; omega, rfl⟩ | exact ⟨by rw [show (m 12 1).toNat = i.toNat by omega, v2_2]; congr 2; omega, rfl⟩)
        · show qJ YX3_seenRows κ _ (qLy u, m, y) 0 0 23 [some (qR 12), some (qI hz), some (qI i)] []
          refine qJ.run hκ 2 (pc' := 2) (ls' := [some (qR 12), some (qI hz), some (qI (i + 1))]) (st' := []) rfl ?_
          exact ih2  (i + 1) (by omega) (by omega) (by rw [show (i + 1).toNat = i.toNat + 1 by omega]; exact q_pfx_go v2_2 c20) (by omega)
  show qJ YX3_seenRows κ _ (qLy u, m, y) 0 0 0 [some (qR 12), some (qI hz), none] []
  refine qJ.run hκ 2 (pc' := 2) (ls' := [some (qR 12), some (qI hz), some (qI 0)]) (st' := []) rfl ?_
  exact L2 ((m 12 1).toNat + 1) 0 (by omega) (by omega) (rfl) (by omega)

set_option maxRecDepth 100000 in
theorem c_accountOf (u : qU) (m y : qM) (k : Int) (h0 : 0 ≤ k ∧ k < 512) : qCt YX3_accountOf 1 0 0 [qR 12, qI k] (qLy u, m, y) (fun r h => r = some (qI (q_and (q_shr (m 13 k.toNat) 16) 15)) ∧ h = (qLy u, m, y)) := by
  refine qCt.intro okX3_accountOf (Nat.le_of_ble_eq_true rfl) (fun κ hκ => ?_)
  show qJ YX3_accountOf κ _ (qLy u, m, y) 0 0 0 [some (qR 12), some (qI k)] []
  refine qJ.run hκ 3 (pc' := 5) (ls' := [some (qR 12), some (qI k)]) (st' := [qI k, qR 13]) rfl ?_
  refine qJ.ald hκ rfl rfl rfl (by decide) (by omega) ?_
  show qJ YX3_accountOf κ _ (qLy u, m, y) 0 0 6 [some (qR 12), some (qI k)] [qI (m 13 k.toNat)]
  refine qJ.run hκ 4 (pc' := 12) (ls' := [some (qR 12), some (qI k)]) (st' := [qI (q_and (q_shr (m 13 k.toNat) 16) 15)]) rfl ?_
  exact qJ.iret hκ rfl rfl (by decide) (by decide) (by first | exact ⟨rfl, rfl⟩ | (refine ⟨?_, rfl⟩; first | rfl | omega))

set_option maxRecDepth 100000 in
theorem c_isTotal (u : qU) (m y : qM) (k : Int) (h0 : 0 ≤ k ∧ k < 512) : qCt YX3_isTotal 1 0 0 [qR 12, qI k] (qLy u, m, y) (fun r h => r = some (qI (if q_and (q_shr (m 13 k.toNat) 20) 1 = 0 then 0 else 1)) ∧ h = (qLy u, m, y)) := by
  refine qCt.intro okX3_isTotal (Nat.le_of_ble_eq_true rfl) (fun κ hκ => ?_)
  show qJ YX3_isTotal κ _ (qLy u, m, y) 0 0 0 [some (qR 12), some (qI k)] []
  refine qJ.run hκ 3 (pc' := 5) (ls' := [some (qR 12), some (qI k)]) (st' := [qI k, qR 13]) rfl ?_
  refine qJ.ald hκ rfl rfl rfl (by decide) (by omega) ?_
  show qJ YX3_isTotal κ _ (qLy u, m, y) 0 0 6 [some (qR 12), some (qI k)] [qI (m 13 k.toNat)]
  refine qJ.run hκ 4 (pc' := 11) (ls' := [some (qR 12), some (qI k)]) (st' := [qI (q_and (q_shr (m 13 k.toNat) 20) 1)]) rfl ?_
  have q1 := q_and_r (q_shr (m 13 k.toNat) 20) 1
  refine qJ.if_eq hκ (tgt := 18) rfl rfl (by omega) (fun c11 => ?_) (fun c11 => ?_)
  · show qJ YX3_isTotal κ _ (qLy u, m, y) 0 0 18 [some (qR 12), some (qI k)] []
    refine qJ.run hκ 1 (pc' := 19) (ls' := [some (qR 12), some (qI k)]) (st' := [qI 0]) rfl ?_
    exact qJ.bret hκ rfl rfl (by omega) (by decide) (by decide) (by refine ⟨?_, rfl⟩; congr 2; split <;> omega)
  · show qJ YX3_isTotal κ _ (qLy u, m, y) 0 0 14 [some (qR 12), some (qI k)] []
    refine qJ.run hκ 2 (pc' := 19) (ls' := [some (qR 12), some (qI k)]) (st' := [qI 1]) rfl ?_
    exact qJ.bret hκ rfl rfl (by omega) (by decide) (by decide) (by refine ⟨?_, rfl⟩; congr 2; split <;> omega)

set_option maxRecDepth 100000 in
theorem c_countOf (u : qU) (m y : qM) (k i : Int) (h0 : 0 ≤ k ∧ k < 512) : qCt YX3_countOf 1 0 0 [qR 12, qI k, qI i] (qLy u, m, y) (fun r h => r = some (qI (q_and (q_shr (m 13 k.toNat) (4 * i)) 15)) ∧ h = (qLy u, m, y)) := by
  refine qCt.intro okX3_countOf (Nat.le_of_ble_eq_true rfl) (fun κ hκ => ?_)
  show qJ YX3_countOf κ _ (qLy u, m, y) 0 0 0 [some (qR 12), some (qI k), some (qI i)] []
  refine qJ.run hκ 3 (pc' := 5) (ls' := [some (qR 12), some (qI k), some (qI i)]) (st' := [qI k, qR 13]) rfl ?_
  refine qJ.ald hκ rfl rfl rfl (by decide) (by omega) ?_
  show qJ YX3_countOf κ _ (qLy u, m, y) 0 0 6 [some (qR 12), some (qI k), some (qI i)] [qI (m 13 k.toNat)]
  refine qJ.run hκ 6 (pc' := 13) (ls' := [some (qR 12), some (qI k), some (qI i)]) (st' := [qI (q_and (q_shr (m 13 k.toNat) (4 * i)) 15)]) rfl ?_
  exact qJ.iret hκ rfl rfl (by decide) (by decide) (by first | exact ⟨rfl, rfl⟩ | (refine ⟨?_, rfl⟩; first | rfl | omega))

set_option maxRecDepth 100000 in
theorem c_slot (u : qU) (m y : qM) (c s : Int)  : qCt YX4_slot 1 0 0 [qI c, qI s] (qLy u, m, y) (fun r h => r = some (qI ((c - 1) * 3 + s)) ∧ h = (qLy u, m, y)) := by
  refine qCt.intro okX4_slot (Nat.le_of_ble_eq_true rfl) (fun κ hκ => ?_)
  show qJ YX4_slot κ _ (qLy u, m, y) 0 0 0 [some (qI c), some (qI s)] []
  refine qJ.run hκ 7 (pc' := 7) (ls' := [some (qI c), some (qI s)]) (st' := [qI (((c - 1) * 3) + s)]) rfl ?_
  exact qJ.iret hκ rfl rfl (by decide) (by decide) (by first | exact ⟨rfl, rfl⟩ | (refine ⟨?_, rfl⟩; first | rfl | omega))

set_option maxRecDepth 100000 in
theorem c_seenNames (u : qU) (m y : qM) (hz : Int) (h0 : 0 ≤ m 15 0 ∧ m 15 0 ≤ 5) (h1 : qr hz) (h2 : ∀ k : Int, 0 ≤ k → k < m 15 0 → qr (m 18 k.toNat)) : qCt YX4_seenNames 1 0 0 [qR 15, qI hz] (qLy u, m, y) (fun r h => r = some (qI (q_pfx (m 18) hz (m 15 0).toNat : Nat)) ∧ h = (qLy u, m, y)) := by
  refine qCt.intro okX4_seenNames (Nat.le_of_ble_eq_true rfl) (fun κ hκ => ?_)
  have L2 : ∀ (n : Nat) (i : Int), (0 ≤ i) → (i ≤ m 15 0) → (q_pfx (m 18) hz i.toNat = i.toNat) → ((m 15 0 - i).toNat) < n → qJ YX4_seenNames κ (qFin (fun r h => r = some (qI (q_pfx (m 18) hz (m 15 0).toNat : Nat)) ∧ h = (qLy u, m, y)) 0 0 κ) (qLy u, m, y) 0 0 2 [some (qR 15), some (qI hz), some (qI i)] [] := by
    intro n
    induction n with
    | zero => intro i _ _ _ hz0; omega
    | succ n ih2 =>
      intro i v2_0 v2_1 v2_2 v2_m
      refine qJ.run hκ 3 (pc' := 7) (ls' := [some (qR 15), some (qI hz), some (qI i)]) (st' := [qI (m 15 0), qI i]) rfl ?_
      refine qJ.icmp_ge hκ (tgt := 26) rfl rfl (by omega) (by omega) (fun c7 => ?_) (fun c7 => ?_)
      · show qJ YX4_seenNames κ _ (qLy u, m, y) 0 0 26 [some (qR 15), some (qI hz), some (qI i)] []
        refine qJ.run hκ 1 (pc' := 27) (ls' := [some (qR 15), some (qI hz), some (qI i)]) (st' := [qI i]) rfl ?_
        exact qJ.iret hκ rfl rfl (by decide) (by decide) (by first | exact ⟨by rw [q_pfx_stop v2_2 (by omega) _ (by omega)]; congr 2; omega, rfl⟩ | exact ⟨by rw [show (m 15 0).toNat = i.toNat by omega, v2_2]; congr 2; omega, rfl⟩)
      · show qJ YX4_seenNames κ _ (qLy u, m, y) 0 0 10 [some (qR 15), some (qI hz), some (qI i)] []
        refine qJ.run hκ 3 (pc' := 15) (ls' := [some (qR 15), some (qI hz), some (qI i)]) (st' := [qI i, qR 18]) rfl ?_
        refine qJ.ald hκ rfl rfl rfl (by decide) (by omega) ?_
        show qJ YX4_seenNames κ _ (qLy u, m, y) 0 0 16 [some (qR 15), some (qI hz), some (qI i)] [qI (m 18 i.toNat)]
        refine qJ.run hκ 1 (pc' := 17) (ls' := [some (qR 15), some (qI hz), some (qI i)]) (st' := [qI hz, qI (m 18 i.toNat)]) rfl ?_
        have q1 := h2 i v2_0 c7
        refine qJ.icmp_gt hκ (tgt := 26) rfl rfl (by omega) (by omega) (fun c17 => ?_) (fun c17 => ?_)
        · show qJ YX4_seenNames κ _ (qLy u, m, y) 0 0 26 [some (qR 15), some (qI hz), some (qI i)] []
          refine qJ.run hκ 1 (pc' := 27) (ls' := [some (qR 15), some (qI hz), some (qI i)]) (st' := [qI i]) rfl ?_
          exact qJ.iret hκ rfl rfl (by decide) (by decide) (by first | exact ⟨by rw [q_pfx_stop v2_2 (by omega) _ (by omega)]; congr 2; omega, rfl⟩ | exact ⟨by rw [show (m 15 0).toNat = i.toNat by omega, v2_2]; congr 2; omega, rfl⟩)
        · show qJ YX4_seenNames κ _ (qLy u, m, y) 0 0 20 [some (qR 15), some (qI hz), some (qI i)] []
          refine qJ.run hκ 2 (pc' := 2) (ls' := [some (qR 15), some (qI hz), some (qI (i + 1))]) (st' := []) rfl ?_
          exact ih2  (i + 1) (by omega) (by omega) (by rw [show (i + 1).toNat = i.toNat + 1 by omega]; exact q_pfx_go v2_2 c17) (by omega)
  show qJ YX4_seenNames κ _ (qLy u, m, y) 0 0 0 [some (qR 15), some (qI hz), none] []
  refine qJ.run hκ 2 (pc' := 2) (ls' := [some (qR 15), some (qI hz), some (qI 0)]) (st' := []) rfl ?_
  exact L2 ((m 15 0).toNat + 1) 0 (by omega) (by omega) (rfl) (by omega)

set_option maxRecDepth 100000 in
theorem c_isSign (u : qU) (m y : qM) (x : Int) (h0 : qr x) : qCt YX11_isSign 1 0 0 [qI x] (qLy u, m, y) (fun r h => r = some (qI (if 0 ≤ x ∧ x ≤ 19 then 1 else 0)) ∧ h = (qLy u, m, y)) := by
  refine qCt.intro okX11_isSign (Nat.le_of_ble_eq_true rfl) (fun κ hκ => ?_)
  show qJ YX11_isSign κ _ (qLy u, m, y) 0 0 0 [some (qI x)] []
  refine qJ.run hκ 1 (pc' := 1) (ls' := [some (qI x)]) (st' := [qI x]) rfl ?_
  refine qJ.if_lt hκ (tgt := 14) rfl rfl (by omega) (fun c1 => ?_) (fun c1 => ?_)
  · show qJ YX11_isSign κ _ (qLy u, m, y) 0 0 14 [some (qI x)] []
    refine qJ.run hκ 1 (pc' := 15) (ls' := [some (qI x)]) (st' := [qI 0]) rfl ?_
    exact qJ.bret hκ rfl rfl (by omega) (by decide) (by decide) (by refine ⟨?_, rfl⟩; congr 2; split <;> omega)
  · show qJ YX11_isSign κ _ (qLy u, m, y) 0 0 4 [some (qI x)] []
    refine qJ.run hκ 2 (pc' := 7) (ls' := [some (qI x)]) (st' := [qI 20, qI x]) rfl ?_
    refine qJ.icmp_ge hκ (tgt := 14) rfl rfl (by omega) (by omega) (fun c7 => ?_) (fun c7 => ?_)
    · show qJ YX11_isSign κ _ (qLy u, m, y) 0 0 14 [some (qI x)] []
      refine qJ.run hκ 1 (pc' := 15) (ls' := [some (qI x)]) (st' := [qI 0]) rfl ?_
      exact qJ.bret hκ rfl rfl (by omega) (by decide) (by decide) (by refine ⟨?_, rfl⟩; congr 2; split <;> omega)
    · show qJ YX11_isSign κ _ (qLy u, m, y) 0 0 10 [some (qI x)] []
      refine qJ.run hκ 2 (pc' := 15) (ls' := [some (qI x)]) (st' := [qI 1]) rfl ?_
      exact qJ.bret hκ rfl rfl (by omega) (by decide) (by decide) (by refine ⟨?_, rfl⟩; congr 2; split <;> omega)

set_option maxRecDepth 100000 in
theorem c_isCount (u : qU) (m y : qM) (x : Int) (h0 : qr x) : qCt YX11_isCount 1 0 0 [qI x] (qLy u, m, y) (fun r h => r = some (qI (if 0 ≤ x ∧ x ≤ 9 then 1 else 0)) ∧ h = (qLy u, m, y)) := by
  refine qCt.intro okX11_isCount (Nat.le_of_ble_eq_true rfl) (fun κ hκ => ?_)
  show qJ YX11_isCount κ _ (qLy u, m, y) 0 0 0 [some (qI x)] []
  refine qJ.run hκ 1 (pc' := 1) (ls' := [some (qI x)]) (st' := [qI x]) rfl ?_
  refine qJ.if_lt hκ (tgt := 14) rfl rfl (by omega) (fun c1 => ?_) (fun c1 => ?_)
  · show qJ YX11_isCount κ _ (qLy u, m, y) 0 0 14 [some (qI x)] []
    refine qJ.run hκ 1 (pc' := 15) (ls' := [some (qI x)]) (st' := [qI 0]) rfl ?_
    exact qJ.bret hκ rfl rfl (by omega) (by decide) (by decide) (by refine ⟨?_, rfl⟩; congr 2; split <;> omega)
  · show qJ YX11_isCount κ _ (qLy u, m, y) 0 0 4 [some (qI x)] []
    refine qJ.run hκ 2 (pc' := 7) (ls' := [some (qI x)]) (st' := [qI 9, qI x]) rfl ?_
    refine qJ.icmp_gt hκ (tgt := 14) rfl rfl (by omega) (by omega) (fun c7 => ?_) (fun c7 => ?_)
    · show qJ YX11_isCount κ _ (qLy u, m, y) 0 0 14 [some (qI x)] []
      refine qJ.run hκ 1 (pc' := 15) (ls' := [some (qI x)]) (st' := [qI 0]) rfl ?_
      exact qJ.bret hκ rfl rfl (by omega) (by decide) (by decide) (by refine ⟨?_, rfl⟩; congr 2; split <;> omega)
    · show qJ YX11_isCount κ _ (qLy u, m, y) 0 0 10 [some (qI x)] []
      refine qJ.run hκ 2 (pc' := 15) (ls' := [some (qI x)]) (st' := [qI 1]) rfl ?_
      exact qJ.bret hκ rfl rfl (by omega) (by decide) (by decide) (by refine ⟨?_, rfl⟩; congr 2; split <;> omega)

set_option maxRecDepth 100000 in
theorem c_isRatio (u : qU) (m y : qM) (x : Int) (h0 : qr x) : qCt YX11_isRatio 1 0 0 [qI x] (qLy u, m, y) (fun r h => r = some (qI (if 0 ≤ x ∧ x ≤ 2 then 1 else 0)) ∧ h = (qLy u, m, y)) := by
  refine qCt.intro okX11_isRatio (Nat.le_of_ble_eq_true rfl) (fun κ hκ => ?_)
  show qJ YX11_isRatio κ _ (qLy u, m, y) 0 0 0 [some (qI x)] []
  refine qJ.run hκ 1 (pc' := 1) (ls' := [some (qI x)]) (st' := [qI x]) rfl ?_
  refine qJ.if_lt hκ (tgt := 13) rfl rfl (by omega) (fun c1 => ?_) (fun c1 => ?_)
  · show qJ YX11_isRatio κ _ (qLy u, m, y) 0 0 13 [some (qI x)] []
    refine qJ.run hκ 1 (pc' := 14) (ls' := [some (qI x)]) (st' := [qI 0]) rfl ?_
    exact qJ.bret hκ rfl rfl (by omega) (by decide) (by decide) (by refine ⟨?_, rfl⟩; congr 2; split <;> omega)
  · show qJ YX11_isRatio κ _ (qLy u, m, y) 0 0 4 [some (qI x)] []
    refine qJ.run hκ 2 (pc' := 6) (ls' := [some (qI x)]) (st' := [qI 3, qI x]) rfl ?_
    refine qJ.icmp_ge hκ (tgt := 13) rfl rfl (by omega) (by omega) (fun c6 => ?_) (fun c6 => ?_)
    · show qJ YX11_isRatio κ _ (qLy u, m, y) 0 0 13 [some (qI x)] []
      refine qJ.run hκ 1 (pc' := 14) (ls' := [some (qI x)]) (st' := [qI 0]) rfl ?_
      exact qJ.bret hκ rfl rfl (by omega) (by decide) (by decide) (by refine ⟨?_, rfl⟩; congr 2; split <;> omega)
    · show qJ YX11_isRatio κ _ (qLy u, m, y) 0 0 9 [some (qI x)] []
      refine qJ.run hκ 2 (pc' := 14) (ls' := [some (qI x)]) (st' := [qI 1]) rfl ?_
      exact qJ.bret hκ rfl rfl (by omega) (by decide) (by decide) (by refine ⟨?_, rfl⟩; congr 2; split <;> omega)

set_option maxRecDepth 100000 in
theorem c_inMask (u : qU) (m y : qM) (a b : Int)  : qCt YX11_inMask 1 0 0 [qI a, qI b] (qLy u, m, y) (fun r h => r = some (qI (if q_and (q_shr a b) 1 = 0 then 0 else 1)) ∧ h = (qLy u, m, y)) := by
  refine qCt.intro okX11_inMask (Nat.le_of_ble_eq_true rfl) (fun κ hκ => ?_)
  show qJ YX11_inMask κ _ (qLy u, m, y) 0 0 0 [some (qI a), some (qI b)] []
  refine qJ.run hκ 5 (pc' := 5) (ls' := [some (qI a), some (qI b)]) (st' := [qI (q_and (q_shr a b) 1)]) rfl ?_
  have q1 := q_and_r (q_shr a b) 1
  refine qJ.if_eq hκ (tgt := 12) rfl rfl (by omega) (fun c5 => ?_) (fun c5 => ?_)
  · show qJ YX11_inMask κ _ (qLy u, m, y) 0 0 12 [some (qI a), some (qI b)] []
    refine qJ.run hκ 1 (pc' := 13) (ls' := [some (qI a), some (qI b)]) (st' := [qI 0]) rfl ?_
    exact qJ.bret hκ rfl rfl (by omega) (by decide) (by decide) (by refine ⟨?_, rfl⟩; congr 2; split <;> omega)
  · show qJ YX11_inMask κ _ (qLy u, m, y) 0 0 8 [some (qI a), some (qI b)] []
    refine qJ.run hκ 2 (pc' := 13) (ls' := [some (qI a), some (qI b)]) (st' := [qI 1]) rfl ?_
    exact qJ.bret hκ rfl rfl (by omega) (by decide) (by decide) (by refine ⟨?_, rfl⟩; congr 2; split <;> omega)

set_option maxRecDepth 100000 in
theorem c_forget (u : qU) (m y : qM)  : qCt YX11_forget 1 0 0 [qR 0] (qLy u, m, y) (fun r h => r = none ∧ h = (qLy u, (q_up (q_up (q_up (q_up (q_up m 0 10 1) 0 11 1) 0 12 1) 0 13 1) 0 14 1), y)) := by
  refine qCt.intro okX11_forget (Nat.le_of_ble_eq_true rfl) (fun κ hκ => ?_)
  show qJ YX11_forget κ _ (qLy u, m, y) 0 0 0 [some (qR 0)] []
  refine qJ.run hκ 2 (pc' := 2) (ls' := [some (qR 0)]) (st' := [qI 1, qR 0]) rfl ?_
  refine qJ.putI hκ rfl rfl rfl rfl (Or.inr ⟨rfl, by omega⟩) ?_
  show qJ YX11_forget κ _ (qLy u, (q_up m 0 10 1), y) 0 0 5 [some (qR 0)] []
  refine qJ.run hκ 2 (pc' := 7) (ls' := [some (qR 0)]) (st' := [qI 1, qR 0]) rfl ?_
  refine qJ.putI hκ rfl rfl rfl rfl (Or.inr ⟨rfl, by omega⟩) ?_
  show qJ YX11_forget κ _ (qLy u, (q_up (q_up m 0 10 1) 0 11 1), y) 0 0 10 [some (qR 0)] []
  refine qJ.run hκ 2 (pc' := 12) (ls' := [some (qR 0)]) (st' := [qI 1, qR 0]) rfl ?_
  refine qJ.putI hκ rfl rfl rfl rfl (Or.inr ⟨rfl, by omega⟩) ?_
  show qJ YX11_forget κ _ (qLy u, (q_up (q_up (q_up m 0 10 1) 0 11 1) 0 12 1), y) 0 0 15 [some (qR 0)] []
  refine qJ.run hκ 2 (pc' := 17) (ls' := [some (qR 0)]) (st' := [qI 1, qR 0]) rfl ?_
  refine qJ.putI hκ rfl rfl rfl rfl (Or.inr ⟨rfl, by omega⟩) ?_
  show qJ YX11_forget κ _ (qLy u, (q_up (q_up (q_up (q_up m 0 10 1) 0 11 1) 0 12 1) 0 13 1), y) 0 0 20 [some (qR 0)] []
  refine qJ.run hκ 2 (pc' := 22) (ls' := [some (qR 0)]) (st' := [qI 1, qR 0]) rfl ?_
  refine qJ.putI hκ rfl rfl rfl rfl (Or.inr ⟨rfl, by omega⟩) ?_
  show qJ YX11_forget κ _ (qLy u, (q_up (q_up (q_up (q_up (q_up m 0 10 1) 0 11 1) 0 12 1) 0 13 1) 0 14 1), y) 0 0 25 [some (qR 0)] []
  exact qJ.vret hκ rfl rfl (by decide) (by decide) (by first | exact ⟨rfl, rfl⟩ | (refine ⟨?_, rfl⟩; first | rfl | omega))

set_option maxRecDepth 100000 in
theorem c_give (u : qU) (m y : qM) (a b c d e : Int)  : qCt YX11_give 1 0 0 [qR 0, qI a, qI b, qI c, qI d, qI e] (qLy u, m, y) (fun r h => r = none ∧ h = (qLy u, (q_up (q_up (q_up (q_up (q_up m 23 0 a) 23 1 b) 23 2 c) 23 3 d) 23 4 e), y)) := by
  refine qCt.intro okX11_give (Nat.le_of_ble_eq_true rfl) (fun κ hκ => ?_)
  show qJ YX11_give κ _ (qLy u, m, y) 0 0 0 [some (qR 0), some (qI a), some (qI b), some (qI c), some (qI d), some (qI e)] []
  refine qJ.run hκ 4 (pc' := 6) (ls' := [some (qR 0), some (qI a), some (qI b), some (qI c), some (qI d), some (qI e)]) (st' := [qI a, qI 0, qR 23]) rfl ?_
  refine qJ.ast hκ rfl rfl rfl (by decide) (by omega) ?_
  show qJ YX11_give κ _ (qLy u, (q_up m 23 0 a), y) 0 0 7 [some (qR 0), some (qI a), some (qI b), some (qI c), some (qI d), some (qI e)] []
  refine qJ.run hκ 4 (pc' := 13) (ls' := [some (qR 0), some (qI a), some (qI b), some (qI c), some (qI d), some (qI e)]) (st' := [qI b, qI 1, qR 23]) rfl ?_
  refine qJ.ast hκ rfl rfl rfl (by decide) (by omega) ?_
  show qJ YX11_give κ _ (qLy u, (q_up (q_up m 23 0 a) 23 1 b), y) 0 0 14 [some (qR 0), some (qI a), some (qI b), some (qI c), some (qI d), some (qI e)] []
  refine qJ.run hκ 4 (pc' := 20) (ls' := [some (qR 0), some (qI a), some (qI b), some (qI c), some (qI d), some (qI e)]) (st' := [qI c, qI 2, qR 23]) rfl ?_
  refine qJ.ast hκ rfl rfl rfl (by decide) (by omega) ?_
  show qJ YX11_give κ _ (qLy u, (q_up (q_up (q_up m 23 0 a) 23 1 b) 23 2 c), y) 0 0 21 [some (qR 0), some (qI a), some (qI b), some (qI c), some (qI d), some (qI e)] []
  refine qJ.run hκ 4 (pc' := 28) (ls' := [some (qR 0), some (qI a), some (qI b), some (qI c), some (qI d), some (qI e)]) (st' := [qI d, qI 3, qR 23]) rfl ?_
  refine qJ.ast hκ rfl rfl rfl (by decide) (by omega) ?_
  show qJ YX11_give κ _ (qLy u, (q_up (q_up (q_up (q_up m 23 0 a) 23 1 b) 23 2 c) 23 3 d), y) 0 0 29 [some (qR 0), some (qI a), some (qI b), some (qI c), some (qI d), some (qI e)] []
  refine qJ.run hκ 4 (pc' := 36) (ls' := [some (qR 0), some (qI a), some (qI b), some (qI c), some (qI d), some (qI e)]) (st' := [qI e, qI 4, qR 23]) rfl ?_
  refine qJ.ast hκ rfl rfl rfl (by decide) (by omega) ?_
  show qJ YX11_give κ _ (qLy u, (q_up (q_up (q_up (q_up (q_up m 23 0 a) 23 1 b) 23 2 c) 23 3 d) 23 4 e), y) 0 0 37 [some (qR 0), some (qI a), some (qI b), some (qI c), some (qI d), some (qI e)] []
  exact qJ.vret hκ rfl rfl (by decide) (by decide) (by first | exact ⟨rfl, rfl⟩ | (refine ⟨?_, rfl⟩; first | rfl | omega))
