/-! printed by p27.py: what class and model hold alike -/
theorem q_n2 {b : Int} (h : b = 0 ∨ b = 1) : q_nar 2 b = b := by rcases h with rfl | rfl <;> decide +kernel
/-- a contract that says less -/
theorem qCt.weak {Y : qY} {d mc ms : Nat} {as : List qV} {h : qH} {Q Q' : Option qV → qH → Prop} (k : qCt Y d mc ms as h Q) (hq : ∀ r h', Q r h' → Q' r h') : qCt Y d mc ms as h Q' := by
  intro l D tc φ sz p e a1 a2 a3 s m args below b1 b2 b3 b4
  obtain ⟨n, o, c1, c2, c3, ⟨⟨r, h', φ', d1, d2, d3⟩, c4⟩, c5⟩ := k l D tc φ sz p e a1 a2 a3 s m args below b1 b2 b3 b4
  exact ⟨n, o, c1, c2, c3, ⟨⟨r, h', φ', d1, hq r h' d2, d3⟩, c4⟩, c5⟩
theorem q_tn {i : Int} (h : 0 ≤ i) : ((i.toNat : Nat) : Int) = i := by omega
theorem q_pfx_all {f : Nat → Int} {z : Int} : ∀ n k : Nat, k < q_pfx f z n → f k ≤ z
  | 0, k, h => by have : q_pfx f z 0 = 0 := rfl
                  omega
  | n + 1, k, h => by
    unfold q_pfx at h
    by_cases e : q_pfx f z n = n ∧ f n ≤ z
    · rw [if_pos e] at h
      by_cases g : k = n
      · subst g; exact e.2
      · exact q_pfx_all n k (by omega)
    · rw [if_neg e] at h
      exact q_pfx_all n k h
theorem q_pfx_nx {f : Nat → Int} {z : Int} : ∀ n : Nat, q_pfx f z n < n → ¬ f (q_pfx f z n) ≤ z
  | 0, h => by omega
  | n + 1, h => by
    by_cases e : q_pfx f z n = n ∧ f n ≤ z
    · unfold q_pfx at h
      rw [if_pos e] at h
      omega
    · have e1 : q_pfx f z (n + 1) = q_pfx f z n := by rw [q_pfx, if_neg e]
      rw [e1]
      have hle := q_pfx_le f z n
      by_cases g : q_pfx f z n < n
      · exact q_pfx_nx n g
      · have g1 : q_pfx f z n = n := by omega
        intro g2
        rw [g1] at g2
        exact e ⟨g1, g2⟩
/-- a rising row: what is at most z are its first ones -/
theorem q_pfx_iff {f : Nat → Int} {z : Int} {n : Nat} (hm : ∀ j k : Nat, j ≤ k → k < n → f j ≤ f k) {k : Nat} (hk : k < n) : f k ≤ z ↔ k < q_pfx f z n := by
  constructor
  · intro h
    by_cases g : k < q_pfx f z n
    · exact g
    · exfalso
      have h1 := hm (q_pfx f z n) k (by omega) hk
      exact q_pfx_nx (f := f) (z := z) n (by omega) (by omega)
  · exact q_pfx_all n k
theorem q_cnt_find {p : Nat → Prop} [DecidablePred p] : ∀ n c : Nat, c < q_cnt p n → ∃ t, t < n ∧ p t ∧ q_cnt p t = c
  | 0, c, h => by have : q_cnt p 0 = 0 := rfl
                  omega
  | n + 1, c, h => by
    by_cases g : c < q_cnt p n
    · obtain ⟨t, h1, h2, h3⟩ := q_cnt_find n c g
      exact ⟨t, by omega, h2, h3⟩
    · unfold q_cnt at h
      by_cases e : p n
      · rw [if_pos e] at h
        exact ⟨n, by omega, e, by omega⟩
      · rw [if_neg e] at h; omega
/-- scalars -/
def rA (m : qM) : Prop := ((0 ≤ m 2 0 ∧ m 2 0 ≤ 60) ∧ (0 ≤ m 2 1 ∧ m 2 1 ≤ 12) ∧ (0 ≤ m 2 2 ∧ m 2 2 ≤ 150)) ∧ ((0 ≤ m 1 8 ∧ m 1 8 ≤ 999) ∧ (-1 ≤ m 1 9 ∧ m 1 9 ≤ m 1 8) ∧ (0 ≤ m 1 7 ∧ m 1 7 ≤ 3)) ∧ (m 85 0 = m 2 0 ∧ m 86 0 = m 2 1 ∧ m 92 0 = m 2 2) ∧ (m 82 0 = m 1 8 ∧ m 83 0 = m 1 9 ∧ m 84 0 = m 1 7)
/-- words -/
def rW (m : qM) : Prop := ∀ w : Int, 0 ≤ w → w < m 2 0 → (m 88 w.toNat = m 4 w.toNat ∧ m 89 w.toNat = m 6 w.toNat ∧ m 90 w.toNat = m 7 w.toNat ∧ m 91 w.toNat = m 8 w.toNat) ∧ ((0 ≤ m 6 w.toNat ∧ m 6 w.toNat ≤ 3) ∧ (0 ≤ m 7 w.toNat ∧ m 7 w.toNat ≤ m 1 8) ∧ (m 8 w.toNat = 0 ∨ m 8 w.toNat = 1)) ∧ ∀ i : Int, 0 ≤ i → i < m 4 w.toNat → m 87 (5 * w + i).toNat = m 3 (w * 5 + i).toNat
/-- tellings -/
def rT (m : qM) : Prop := ∀ t : Int, 0 ≤ t → t < m 2 2 → (m 93 t.toNat = m 9 t.toNat ∧ m 94 t.toNat = m 10 t.toNat ∧ m 95 t.toNat = m 11 t.toNat) ∧ (0 ≤ m 11 t.toNat ∧ m 11 t.toNat ≤ m 1 8) ∧ (m 10 t.toNat = -1 → m 11 t.toNat = m 7 (m 9 t.toNat).toNat)
/-- words found among the first tellings -/
def fN (m : qM) (t : Nat) : Nat := q_cnt (fun j => m 10 j = -1) t
def rS (m : qM) : Prop := (∀ j k : Nat, j ≤ k → k < (m 2 0).toNat → m 7 j ≤ m 7 k) ∧ (∀ j k : Nat, j ≤ k → k < (m 2 2).toNat → m 11 j ≤ m 11 k) ∧ (fN m (m 2 2).toNat : Int) = m 2 0 ∧ q_sum (m 8) (m 2 0).toNat = m 2 1
def rC (m : qM) : Prop := rA m ∧ gW m ∧ rW m ∧ gTl m ∧ rT m ∧ rS m
theorem hz_eq {m : qM} (h : rA m) : hHz m = gHz m := by
  obtain ⟨-, -, -, h1, h2, -⟩ := h
  unfold hHz gHz
  rw [h1, h2]
theorem gHz_r {m : qM} (h : rA m) : 0 ≤ gHz m ∧ gHz m ≤ 999 ∧ gHz m ≤ m 1 8 := by
  obtain ⟨-, ⟨h1, h2, -⟩, -⟩ := h
  unfold gHz
  split <;> omega
/-- words, tellings by the view -/
def nW (m : qM) : Nat := q_pfx (m 7) (gHz m) (m 2 0).toNat
def nT (m : qM) : Nat := q_pfx (m 11) (gHz m) (m 2 2).toNat
theorem nW_le {m : qM} (h : rA m) : (nW m : Int) ≤ m 2 0 := by
  have := q_pfx_le (m 7) (gHz m) (m 2 0).toNat
  have := h.1.1
  unfold nW; omega
theorem nT_le {m : qM} (h : rA m) : (nT m : Int) ≤ m 2 2 := by
  have := q_pfx_le (m 11) (gHz m) (m 2 2).toNat
  have := h.1.2.2
  unfold nT; omega
theorem w_seen {m : qM} (h : rC m) {w : Int} (h0 : 0 ≤ w) (h1 : w < m 2 0) : m 90 w.toNat ≤ hHz m ↔ w < nW m := by
  have e := ((h.2.2.1 w h0 h1).1).2.2.1
  rw [e, hz_eq h.1, q_pfx_iff (n := (m 2 0).toNat) (fun j k a b => h.2.2.2.2.2.1 j k a b) (by omega)]
  unfold nW
  omega
theorem t_seen {m : qM} (h : rC m) {t : Int} (h0 : 0 ≤ t) (h1 : t < m 2 2) : m 95 t.toNat ≤ hHz m ↔ t < nT m := by
  have e := ((h.2.2.2.2.1 t h0 h1).1).2.2
  rw [e, hz_eq h.1, q_pfx_iff (n := (m 2 2).toNat) (fun j k a b => h.2.2.2.2.2.2.1 j k a b) (by omega)]
  unfold nT
  omega
theorem fN_mono {m : qM} {a b : Nat} (h : a ≤ b) : fN m a ≤ fN m b := q_cnt_mono _ b h
theorem fN_s {m : qM} (t : Nat) : fN m (t + 1) = fN m t + if m 10 t = -1 then 1 else 0 := rfl
theorem tl_at {m : qM} (h : gTl m) {t : Nat} (ht : (t : Int) < m 2 2) : (-1 ≤ m 10 t ∧ m 10 t ≤ 3) ∧ (0 ≤ m 9 t ∧ m 9 t < m 2 0) ∧ (m 10 t = -1 → m 9 t = (fN m t : Int)) ∧ (¬ m 10 t = -1 → m 9 t < (fN m t : Int)) := by
  have := h (t : Int) (by omega) ht
  rw [show ((t : Int)).toNat = t by omega] at this
  exact this
theorem seen_cnt {m : qM} (h : rC m) : fN m (nT m) = nW m := by
  have hA := h.1
  have hs := h.2.2.2.2.2
  have l1 := nW_le hA
  have l2 := nT_le hA
  have key : ∀ t : Nat, (t : Int) < m 2 2 → m 10 t = -1 → (t < nT m ↔ fN m t < nW m) := by
    intro t ht hf
    have a1 := tl_at h.2.2.2.1 ht
    have a2 := h.2.2.2.2.1 (t : Int) (by omega) ht
    rw [show ((t : Int)).toNat = t by omega] at a2
    have a3 := a2.2.2 hf
    have a4 := a1.2.2.1 hf
    have b1 := t_seen h (t := (t : Int)) (by omega) ht
    have b2 := w_seen h (w := m 9 t) a1.2.1.1 a1.2.1.2
    have b3 := (h.2.2.1 (m 9 t) a1.2.1.1 a1.2.1.2).1.2.2.1
    rw [show ((t : Int)).toNat = t by omega] at b1
    have b4 := a2.1.2.2
    omega
  by_cases g : fN m (nT m) < nW m
  · exfalso
    obtain ⟨t, h1, h2, h3⟩ := q_cnt_find (p := fun j => m 10 j = -1) (m 2 2).toNat (fN m (nT m)) (by have := hs.2.2.1; unfold fN at this; omega)
    have k1 := (key t (by omega) h2).mpr (by unfold fN; omega)
    have k2 := fN_mono (m := m) (a := t + 1) (b := nT m) (by omega)
    rw [fN_s, if_pos h2] at k2
    unfold fN at k2 h3
    omega
  · by_cases g2 : nW m < fN m (nT m)
    · exfalso
      obtain ⟨t, h1, h2, h3⟩ := q_cnt_find (p := fun j => m 10 j = -1) (nT m) (nW m) g2
      have k1 := (key t (by omega) h2).mp h1
      unfold fN at k1
      omega
    · omega
/-- the words' cases behind the first tellings -/
def kst (m : qM) (k0 : Nat → Int) : Nat → Nat → Int
  | 0 => k0
  | t + 1 => q_fu (kst m k0 t) (m 9 t).toNat (m 10 t)
theorem gst_k {m : qM} {g : Nat} {f0 k0 : Nat → Int} : ∀ t, (gst m g f0 k0 t).2.1 = kst m k0 t
  | 0 => rfl
  | t + 1 => by
    show q_fu (gst m g f0 k0 t).2.1 (m 9 t).toNat (m 10 t) = _
    rw [gst_k t]; rfl
theorem gst_n {m : qM} {g : Nat} {f0 k0 : Nat → Int} (hT : gTl m) : ∀ t : Nat, (t : Int) ≤ m 2 2 → (gst m g f0 k0 t).2.2 = (fN m t : Int)
  | 0, _ => rfl
  | t + 1, h => by
    have ih := gst_n (g := g) (f0 := f0) (k0 := k0) hT t (by omega)
    have a := tl_at hT (t := t) (by omega)
    show tkN m (t : Int) (gst m g f0 k0 t).2.2 = _
    unfold tkN
    rw [show ((t : Int)).toNat = t by omega, fN_s, ih]
    by_cases e : m 10 t = -1
    · rw [if_pos e, if_pos e, a.2.2.1 e]; omega
    · rw [if_neg e, if_neg e]; omega
/-- rows' labels behind the first words -/
def rst (m : qM) (g : Nat) (f0 : Nat → Int) : Nat → Nat → Int
  | 0 => f0
  | v + 1 => stm m g v (rst m g f0 v) v
theorem gst_f {m : qM} {g : Nat} {f0 k0 : Nat → Int} (hT : gTl m) : ∀ t : Nat, (t : Int) ≤ m 2 2 → (gst m g f0 k0 t).1 = rst m g f0 (fN m t)
  | 0, _ => rfl
  | t + 1, h => by
    have ih := gst_f (g := g) (f0 := f0) (k0 := k0) hT t (by omega)
    have a := tl_at hT (t := t) (by omega)
    show tkF m g (t : Int) (gst m g f0 k0 t).1 = _
    unfold tkF
    rw [show ((t : Int)).toNat = t by omega, fN_s, ih]
    by_cases e : m 10 t = -1
    · rw [if_pos e, if_pos e, a.2.2.1 e]; rfl
    · rw [if_neg e, if_neg e]; rfl
theorem kst_ind {m : qM} {k0 k1 : Nat → Int} (hT : gTl m) : ∀ t : Nat, (t : Int) ≤ m 2 2 → ∀ w : Nat, w < fN m t → kst m k0 t w = kst m k1 t w
  | 0, _, w, hw => by have : fN m 0 = 0 := rfl
                      omega
  | t + 1, h, w, hw => by
    have a := tl_at hT (t := t) (by omega)
    show q_fu (kst m k0 t) _ _ w = q_fu (kst m k1 t) _ _ w
    by_cases e : w = (m 9 t).toNat
    · subst e; rw [q_fu_eq, q_fu_eq]
    · rw [q_fu_ne e, q_fu_ne e]
      refine kst_ind hT t (by omega) w ?_
      rw [fN_s] at hw
      by_cases e2 : m 10 t = -1
      · have := a.2.2.1 e2
        rw [if_pos e2] at hw
        omega
      · rw [if_neg e2] at hw; omega
theorem kst_new {m : qM} (hT : gTl m) : ∀ t : Nat, (t : Int) ≤ m 2 2 → ∀ w : Nat, fN m t ≤ w → kst m (fun _ => -1) t w = -1
  | 0, _, w, hw => rfl
  | t + 1, h, w, hw => by
    have a := tl_at hT (t := t) (by omega)
    have hw2 := hw
    rw [fN_s] at hw
    show q_fu (kst m _ t) _ _ w = _
    by_cases e2 : m 10 t = -1
    · have := a.2.2.1 e2
      rw [if_pos e2] at hw
      rw [q_fu_ne (by omega)]
      exact kst_new hT t (by omega) w (by omega)
    · have := a.2.2.2 e2
      rw [if_neg e2] at hw
      rw [q_fu_ne (by omega)]
      exact kst_new hT t (by omega) w (by omega)
theorem kst_r {m : qM} (hT : gTl m) : ∀ t : Nat, (t : Int) ≤ m 2 2 → ∀ w : Nat, -1 ≤ kst m (fun _ => -1) t w ∧ kst m (fun _ => -1) t w ≤ 3
  | 0, _, w => ⟨by show (-1 : Int) ≤ -1; omega, by show (-1 : Int) ≤ 3; omega⟩
  | t + 1, h, w => by
    have a := tl_at hT (t := t) (by omega)
    show -1 ≤ q_fu (kst m _ t) _ _ w ∧ q_fu (kst m _ t) _ _ w ≤ 3
    by_cases e : w = (m 9 t).toNat
    · subst e; rw [q_fu_eq]; exact a.1
    · rw [q_fu_ne e]; exact kst_r hT t (by omega) w
theorem jcS_k {m : qM} {g : Nat} {kk k1 c0 p0 : Nat → Int} : ∀ n : Nat, (∀ w, w < n → kk w = k1 w) → jcS m g kk c0 p0 n = jcS m g k1 c0 p0 n
  | 0, _ => rfl
  | n + 1, h => by
    unfold jcS
    rw [jcS_k n (fun w hw => h w (by omega)), h n (by omega)]
theorem jn_comm {f : Nat → Int} {a b : Int} : jn f a b = jn f b a := by
  funext s
  unfold jn
  rw [Int.max_comm, Int.min_comm]
theorem jn_cong {f : Nat → Int} {a b : Int} {x z : Nat} (hx : x < 20) (hz : z < 20) (h : f x = f z) : jn f a b x = jn f a b z := by
  unfold jn
  by_cases e : f x = max (f a.toNat) (f b.toNat)
  · rw [if_pos ⟨hx, e⟩, if_pos ⟨hz, by rw [← h]; exact e⟩]
  · rw [if_neg (fun q => e q.2), if_neg (fun q => e (by rw [h]; exact q.2)), h]
theorem jn_ab {f : Nat → Int} {a b : Int} (ha : a.toNat < 20) (hb : b.toNat < 20) : jn f a b a.toNat = jn f a b b.toNat := by
  unfold jn
  by_cases e : f a.toNat = max (f a.toNat) (f b.toNat)
  · rw [if_pos ⟨ha, e⟩]
    by_cases e2 : f b.toNat = max (f a.toNat) (f b.toNat)
    · rw [if_pos ⟨hb, e2⟩]
    · rw [if_neg (fun q => e2 q.2)]; omega
  · rw [if_neg (fun q => e q.2)]
    by_cases e2 : f b.toNat = max (f a.toNat) (f b.toNat)
    · rw [if_pos ⟨hb, e2⟩]; omega
    · rw [if_neg (fun q => e2 q.2)]; omega
theorem jn_eq {f : Nat → Int} {a b : Int} (h : f a.toNat = f b.toNat) : jn f a b = f := jn_same (by rw [h]; omega)
/-- columns as the model joins them: a word with each ahead of it -/
def mcI (L kk : Nat → Int) (v : Nat) (c : Nat → Int) : Nat → Nat → Int
  | 0 => c
  | w + 1 => if ¬ kk v = -1 ∧ kk v = kk w ∧ ¬ L v = 20 ∧ ¬ L w = 20 then jn (mcI L kk v c w) (L v) (L w) else mcI L kk v c w
def mcO (L kk c0 : Nat → Int) : Nat → Nat → Int
  | 0 => c0
  | v + 1 => mcI L kk v (mcO L kk c0 v) v
theorem mcI_no {L kk c : Nat → Int} {v : Nat} : ∀ n : Nat, (∀ w, w < n → ¬ (¬ kk v = -1 ∧ kk v = kk w ∧ ¬ L v = 20 ∧ ¬ L w = 20)) → mcI L kk v c n = c
  | 0, _ => rfl
  | n + 1, h => by
    unfold mcI
    rw [if_neg (h n (by omega)), mcI_no n (fun w hw => h w (by omega))]
theorem mcI_yes {L kk c : Nat → Int} {v w0 : Nat} (h0 : kk v = kk w0 ∧ ¬ L w0 = 20) (hv : ¬ kk v = -1 ∧ ¬ L v = 20) (hf : ∀ w, w < w0 → kk w = kk v → L w = 20) : ∀ n : Nat, (∀ w, w < n → 0 ≤ L w ∧ L w ≤ 20) → (0 ≤ L v ∧ L v ≤ 20) → (∀ w, w < n → kk w = kk v → ¬ L w = 20 → c (L w).toNat = c (L w0).toNat) → w0 < n → mcI L kk v c n = jn c (L v) (L w0)
  | 0, _, _, _, h => by omega
  | n + 1, hr, hrv, hc, h => by
    unfold mcI
    by_cases e : n = w0
    · subst e
      rw [if_pos ⟨hv.1, h0.1, hv.2, h0.2⟩, mcI_no n (fun w hw z => z.2.2.2 (hf w hw z.2.1.symm))]
    · have ih := mcI_yes h0 hv hf n (fun w hw => hr w (by omega)) hrv (fun w hw => hc w (by omega)) (by omega)
      rw [ih]
      split
      · rename_i z
        have r1 := hr n (by omega)
        have r0 := hr w0 (by omega)
        refine jn_eq ?_
        rw [jn_ab (by omega) (by omega)]
        exact (jn_cong (by omega) (by omega) (hc n (by omega) z.2.1.symm z.2.2.2)).symm
      · rfl
def colI (L kk c p : Nat → Int) (n : Nat) : Prop := ∀ k : Nat, k < 4 → (p k = -1 → ∀ w, w < n → kk w = (k : Int) → L w = 20) ∧ (¬ p k = -1 → ∃ w0, w0 < n ∧ kk w0 = (k : Int) ∧ L w0 = p k ∧ ¬ p k = 20 ∧ (∀ w, w < w0 → kk w = (k : Int) → L w = 20) ∧ ∀ w, w < n → kk w = (k : Int) → ¬ L w = 20 → c (L w).toNat = c (p k).toNat)
theorem col_eq {m : qM} {g : Nat} {kk c0 : Nat → Int} : ∀ n : Nat, (∀ w : Nat, w < n → (-1 ≤ kk w ∧ kk w ≤ 3) ∧ 0 ≤ lst m g w ∧ lst m g w ≤ 20) → (jcS m g kk c0 (fun _ => -1) n).1 = mcO (fun w => lst m g w) kk c0 n ∧ colI (fun w => lst m g w) kk (jcS m g kk c0 (fun _ => -1) n).1 (jcS m g kk c0 (fun _ => -1) n).2 n
  | 0, _ => ⟨rfl, fun k hk => ⟨fun _ w hw => by omega, fun h => absurd rfl h⟩⟩
  | n + 1, hr => by
    obtain ⟨i1, i2⟩ := col_eq (m := m) (g := g) (kk := kk) (c0 := c0) n (fun w hw => hr w (by omega))
    have rn := hr n (by omega)
    have hj : jcS m g kk c0 (fun _ => -1) (n + 1) = if kk n = -1 ∨ lst m g n = 20 then jcS m g kk c0 (fun _ => -1) n else if (jcS m g kk c0 (fun _ => -1) n).2 (kk n).toNat = -1 then ((jcS m g kk c0 (fun _ => -1) n).1, q_fu (jcS m g kk c0 (fun _ => -1) n).2 (kk n).toNat (lst m g n)) else (jn (jcS m g kk c0 (fun _ => -1) n).1 ((jcS m g kk c0 (fun _ => -1) n).2 (kk n).toNat) (lst m g n), (jcS m g kk c0 (fun _ => -1) n).2) := rfl
    rw [hj]
    clear hj
    show _ = mcI _ kk n (mcO _ kk c0 n) n ∧ _
    rw [← i1]
    generalize jcS m g kk c0 (fun _ => -1) n = S at *
    obtain ⟨c, p⟩ := S
    simp only at i1 i2 ⊢
    by_cases e : kk n = -1 ∨ lst m g n = 20
    · rw [if_pos e]
      refine ⟨(mcI_no n (fun w _ z => e.elim z.1 z.2.2.1)).symm, fun k hk => ?_⟩
      obtain ⟨a1, a2⟩ := i2 k hk
      refine ⟨fun h w hw hk2 => ?_, fun h => ?_⟩
      · by_cases e2 : w = n
        · subst e2; exact e.elim (fun z => by omega) id
        · exact a1 h w (by omega) hk2
      · obtain ⟨w0, b1, b2, b3, b4, b5, b6⟩ := a2 h
        refine ⟨w0, by omega, b2, b3, b4, b5, fun w hw hk2 hl => ?_⟩
        by_cases e2 : w = n
        · subst e2; exact e.elim (fun z => by omega) (fun z => absurd z hl)
        · exact b6 w (by omega) hk2 hl
    · rw [if_neg e]
      have e1 : ¬ kk n = -1 := fun z => e (Or.inl z)
      have e2 : ¬ lst m g n = 20 := fun z => e (Or.inr z)
      have kn : (kk n).toNat < 4 := by omega
      have kt : (((kk n).toNat : Nat) : Int) = kk n := by omega
      obtain ⟨a1, a2⟩ := i2 _ kn
      by_cases ep : p (kk n).toNat = -1
      · rw [if_pos ep]
        refine ⟨(mcI_no n (fun w hw z => z.2.2.2 (a1 ep w hw (by rw [kt]; exact z.2.1.symm)))).symm, ?_⟩
        show colI (fun w => lst m g w) kk c (q_fu p (kk n).toNat (lst m g n)) (n + 1)
        intro k hk
        by_cases ek : k = (kk n).toNat
        · subst ek
          rw [q_fu_eq]
          refine ⟨fun h => by omega, fun _ => ⟨n, by omega, kt.symm, rfl, e2, fun w hw hk2 => a1 ep w hw hk2, fun w hw hk2 hl => ?_⟩⟩
          by_cases e3 : w = n
          · subst e3; rfl
          · exact absurd (a1 ep w (by omega) hk2) hl
        · rw [q_fu_ne ek]
          obtain ⟨d1, d2⟩ := i2 k hk
          refine ⟨fun h w hw hk2 => ?_, fun h => ?_⟩
          · by_cases e3 : w = n
            · subst e3; exact absurd (by omega) ek
            · exact d1 h w (by omega) hk2
          · obtain ⟨w0, b1, b2, b3, b4, b5, b6⟩ := d2 h
            refine ⟨w0, by omega, b2, b3, b4, b5, fun w hw hk2 hl => ?_⟩
            by_cases e3 : w = n
            · subst e3; exact absurd (by omega) ek
            · exact b6 w (by omega) hk2 hl
      · rw [if_neg ep]
        obtain ⟨w0, b1, b2, b3, b4, b5, b6⟩ := a2 ep
        have r0 := hr w0 (by omega)
        simp only at b3
        have key : mcI (fun w => lst m g w) kk n c n = jn c (p (kk n).toNat) (lst m g n) := by
          rw [mcI_yes (w0 := w0) ⟨by omega, by show ¬ lst m g w0 = 20; rw [b3]; exact b4⟩ ⟨e1, e2⟩ (fun w hw hk2 => b5 w hw (by omega)) n (fun w hw => (hr w (by omega)).2) rn.2 (fun w hw hk2 hl => by show c (lst m g w).toNat = c (lst m g w0).toNat; rw [b3]; exact b6 w hw (by omega) hl) b1]
          show jn c (lst m g n) (lst m g w0) = _
          rw [b3, jn_comm]
        refine ⟨key.symm, ?_⟩
        show colI (fun w => lst m g w) kk (jn c (p (kk n).toNat) (lst m g n)) p (n + 1)
        intro k hk
        obtain ⟨d1, d2⟩ := i2 k hk
        refine ⟨fun h w hw hk2 => ?_, fun h => ?_⟩
        · by_cases e3 : w = n
          · subst e3
            have : k = (kk w).toNat := by omega
            subst this
            exact absurd h ep
          · exact d1 h w (by omega) hk2
        · obtain ⟨w1, c1, c2, c3, c4, c5, c6⟩ := d2 h
          refine ⟨w1, by omega, c2, c3, c4, c5, fun w hw hk2 hl => ?_⟩
          have r1 := hr w1 (by omega)
          simp only at c3
          by_cases e3 : w = n
          · subst e3
            have : k = (kk w).toNat := by omega
            subst this
            show jn c (p (kk w).toNat) (lst m g w) (lst m g w).toNat = jn c (p (kk w).toNat) (lst m g w) (p (kk w).toNat).toNat
            exact (jn_ab (by omega) (by omega)).symm
          · have rw1 := hr w (by omega)
            show jn c (p (kk n).toNat) (lst m g n) (lst m g w).toNat = jn c (p (kk n).toNat) (lst m g n) (p k).toNat
            simp only at hl
            exact jn_cong (by omega) (by omega) (c6 w (by omega) hk2 hl)
/-- a canon of the grid behind the first n tellings, two signs (l, gr) as one -/
abbrev gM (m : qM) (l gr : Int) : qM := q_up (q_up m 34 6 l) 34 7 gr
def gF (m : qM) (l gr : Int) (n : Nat) : Nat → Int := rst (gM m l gr) 34 (sep (fun _ => 0)) (fN m n)
def gK (m : qM) (l gr : Int) (n : Nat) : Nat → Int := (jcS (gM m l gr) 34 (kst m (fun _ => -1) n) (sep (fun _ => 0)) (fun _ => -1) (fN m n)).1
