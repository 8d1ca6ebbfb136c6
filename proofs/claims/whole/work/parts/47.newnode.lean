/-! A NEW NODE, both sides -/
def mTj (n : Nat) (V μ : Nat → Nat → Int32) (j : Nat) : Prop := μ 53 j = V (100 + 4 * j) 2 ∧ μ 54 j = V (100 + 4 * j) 3 ∧ μ 55 j = V (100 + 4 * j) 4 ∧ μ 56 j = V (100 + 4 * j) 5 ∧ μ 57 j = V (100 + 4 * j) 7 ∧ μ 58 j = V (100 + 4 * j) 9 ∧ μ 59 j = V (100 + 4 * j) 10 ∧ ∀ k, k < n → μ 60 (8 * j + k) = V (100 + 4 * j + 2) k ∧ μ 61 (8 * j + k) = V (100 + 4 * j + 3) k
theorem tv.fr' {n j : Nat} {V W : Nat → Nat → Int32} (h : tv n V j) (e2 : W 2 = V 2) (e3 : W 3 = V 3) (e : ∀ k, 100 ≤ k → k < 100 + 4 * j + 4 → ∀ i, i < 7 ∨ ¬ k % 4 = 0 → W k i = V k i) : tv n W j := by
  rcases h with ⟨h0, h1, h2, h3, h4⟩ | ⟨p, a, h1, h2, h3, h4, h5, h6, h7, h8⟩
  · refine Or.inl ⟨h0, ?_, ?_, ?_, fun k hk => ?_⟩
    · rw [e _ (by omega) (by omega) _ (by omega)]; exact h1
    · rw [e _ (by omega) (by omega) _ (by omega)]; exact h2
    · rw [e _ (by omega) (by omega) _ (by omega)]; exact h3
    · rw [e2, e3, e _ (by omega) (by omega) _ (by omega), e _ (by omega) (by omega) _ (by omega)]; exact h4 k hk
  · refine Or.inr ⟨p, a, h1, h2, ?_, ?_, ?_, fun k hk => ?_, ?_, ?_⟩
    · rw [e (100 + 4 * j) (by omega) (by omega) _ (by omega)]; exact h3
    · rw [e (100 + 4 * j) (by omega) (by omega) _ (by omega)]; exact h4
    · rw [e (100 + 4 * j) (by omega) (by omega) _ (by omega), e (100 + 4 * p) (by omega) (by omega) _ (by omega)]; exact h5
    · rw [e (100 + 4 * j + 2) (by omega) (by omega) _ (by omega), e (100 + 4 * j + 3) (by omega) (by omega) _ (by omega), e (100 + 4 * p + 2) (by omega) (by omega) _ (by omega), e (100 + 4 * p + 3) (by omega) (by omega) _ (by omega)]; exact h6 k hk
    · rw [e (100 + 4 * j) (by omega) (by omega) 4 (by omega), e (100 + 4 * j) (by omega) (by omega) 5 (by omega), e (100 + 4 * j + 3) (by omega) (by omega) _ (by omega)]; exact h7
    · rw [e (100 + 4 * j) (by omega) (by omega) 4 (by omega), e (100 + 4 * j) (by omega) (by omega) 5 (by omega), e (100 + 4 * j + 2) (by omega) (by omega) _ (by omega)]; exact h8
theorem kI.fr {V W : Nat → Nat → Int32} (h : kI V) (e2 : W 22 = V 22) (e3 : W 23 = V 23) : kI W := by unfold kI; rw [e2, e3]; exact h
theorem bI.fr {V W : Nat → Nat → Int32} (h : bI V) (e : W 9 = V 9) : bI W := by unfold bI; rw [e]; exact h
theorem xI.fr {c : Nat} {V W : Nat → Nat → Int32} (h : xI c V) (e : W 13 = V 13) : xI c W := by unfold xI; rw [e]; exact h
theorem vR.fr {n rc : Nat} {V W : Nat → Nat → Int32} (h : vR n rc V) (h4 : W 4 = V 4) (h6 : W 6 = V 6) (h9 : W 9 = V 9) (hr : ∀ q, q < 16 → W (24 + q) = V (24 + q)) : vR n rc W := by
  obtain ⟨a1, a2, a3, a4, a5⟩ := h
  unfold vR
  rw [h4, h6, h9]
  exact ⟨a1, a2, fun r hr' => by rw [hr r (by omega)]; exact a3 r hr', a4, a5⟩
section NEW
variable {n rc sz al c : Nat} {V m1 : Nat → Nat → Int32}
theorem ns_nd : nsF m1 sz n rc (100 + 4 * sz) = upd (upd (upd (upd (m1 (100 + 4 * sz)) 9 (nwF m1 n rc 1000 (m1 (100 + 4 * sz + 2), m1 (100 + 4 * sz + 3), m1 16 2)).1) 7 (if (nwF m1 n rc 1000 (m1 (100 + 4 * sz + 2), m1 (100 + 4 * sz + 3), m1 16 2)).1 = -2 then 0 else 2)) 8 (bl (nwF m1 n rc 1000 (m1 (100 + 4 * sz + 2), m1 (100 + 4 * sz + 3), m1 16 2)).2.1 (nwF m1 n rc 1000 (m1 (100 + 4 * sz + 2), m1 (100 + 4 * sz + 3), m1 16 2)).2.2.1 (m1 4) 1 n)) 10 (-2) := by
  unfold nsF seF
  rw [va_up_self, setB_fr (by omega) (by omega) (by omega), setB_fr (k := 4) (by omega) (by omega) (by omega)]
  unfold setB
  rw [va_up_ne _ _ (show 100 + 4 * sz + 2 ≠ 16 by omega), va_up_ne _ _ (show 100 + 4 * sz + 2 ≠ 100 + 4 * sz + 3 by omega), va_up_self, va_up_ne _ _ (show 100 + 4 * sz + 3 ≠ 16 by omega), va_up_self]
theorem ns_lo : nsF m1 sz n rc (100 + 4 * sz + 2) = (nwF m1 n rc 1000 (m1 (100 + 4 * sz + 2), m1 (100 + 4 * sz + 3), m1 16 2)).2.1 := by
  unfold nsF
  rw [seF_fr (by omega)]
  unfold setB
  rw [va_up_ne _ _ (show 100 + 4 * sz + 2 ≠ 16 by omega), va_up_ne _ _ (show 100 + 4 * sz + 2 ≠ 100 + 4 * sz + 3 by omega), va_up_self]
theorem ns_hi : nsF m1 sz n rc (100 + 4 * sz + 3) = (nwF m1 n rc 1000 (m1 (100 + 4 * sz + 2), m1 (100 + 4 * sz + 3), m1 16 2)).2.2.1 := by
  unfold nsF
  rw [seF_fr (by omega)]
  unfold setB
  rw [va_up_ne _ _ (show 100 + 4 * sz + 3 ≠ 16 by omega), va_up_self]
theorem new_C (hC : CI n rc sz al c V) (h6 : sz < 600) (f1 : ∀ k, (k < 100 + 4 * sz ∨ 100 + 4 * sz + 4 ≤ k) → k ≠ 14 → m1 k = V k) (f2 : m1 14 = upd (V 14) 1 (nI (sz + 1))) (f3 : m1 (100 + 4 * sz) 0 = nI sz) (fb : bdR n (m1 (100 + 4 * sz + 2)) (m1 (100 + 4 * sz + 3))) (ft : tv n m1 sz) : CI n rc (sz + 1) (grA al sz) c (nsF m1 sz n rc) := by
  have hsz := hC.szal
  have hal := hC.al6
  have g1 : ∀ k, (k < 100 + 4 * sz ∨ 100 + 4 * sz + 4 ≤ k) → k ≠ 14 → k ≠ 16 → nsF m1 sz n rc k = V k := fun k h1 h2 h3 => by rw [nsF_fr h1 h3]; exact f1 k h1 h2
  have hV : vR n rc m1 := hC.vR.fr (f1 4 (by omega) (by omega)) (f1 6 (by omega) (by omega)) (f1 9 (by omega) (by omega)) (fun q hq => f1 _ (by omega) (by omega))
  refine ⟨hC.1.fr fun k hk => g1 k (by omega) (by omega) (by omega), hC.2.1.fr (g1 22 (by omega) (by omega) (by omega)) (g1 23 (by omega) (by omega) (by omega)), hC.2.2.1.fr (g1 9 (by omega) (by omega) (by omega)), hC.2.2.2.1.fr (g1 13 (by omega) (by omega) (by omega)), ?_, ?_, ?_, fun j hj => ?_, fun j hj => ?_, fun j hj => ?_⟩
  · rw [nsF_fr (by omega) (by omega), f2]; rfl
  · exact grA_gt hsz
  · unfold grA; split <;> omega
  · by_cases e : j = sz
    · subst e; rw [ns_nd]; exact f3
    · rw [g1 _ (by omega) (by omega) (by omega)]
      exact hC.num j (by unfold grA at hj; split at hj <;> omega)
  · by_cases e : j = sz
    · subst e
      rw [ns_lo, ns_hi]
      refine ⟨nwF_bd hV 1000 fb, ?_⟩
      rw [ns_nd, nsF_fr (k := 4) (by omega) (by omega)]; rfl
    · rw [g1 (100 + 4 * j) (by omega) (by omega) (by omega), g1 (100 + 4 * j + 2) (by omega) (by omega) (by omega), g1 (100 + 4 * j + 3) (by omega) (by omega) (by omega), g1 4 (by omega) (by omega) (by omega)]
      exact hC.tB j (by omega)
  · by_cases e : j = sz
    · subst e
      have sb := nwF_sb (V := m1) (n := n) (rc := rc) 1000 (s := (m1 (100 + 4 * j + 2), m1 (100 + 4 * j + 3), m1 16 2))
      rcases ft with ⟨t0, t1, t2, t3, t4⟩ | ⟨p, a, t1, t2, t3, t4, t5, t6, t7, t8⟩
      · refine Or.inl ⟨t0, ?_, ?_, ?_, fun k hk => ?_⟩
        · rw [ns_nd]; exact t1
        · rw [ns_nd]; exact t2
        · rw [ns_nd]; exact t3
        · rw [ns_lo, ns_hi, nsF_fr (k := 2) (by omega) (by omega), nsF_fr (k := 3) (by omega) (by omega)]
          have u1 := t4 k hk
          have u2 := sb k hk
          exact ⟨Int.le_trans u1.1 u2.1, Int.le_trans u2.2 u1.2⟩
      · refine Or.inr ⟨p, a, t1, t2, ?_, ?_, ?_, fun k hk => ?_, ?_, ?_⟩
        · rw [ns_nd]; exact t3
        · rw [ns_nd]; exact t4
        · rw [ns_nd, nsF_fr (k := 100 + 4 * p) (by omega) (by omega)]; exact t5
        · rw [ns_lo, ns_hi, nsF_fr (k := 100 + 4 * p + 2) (by omega) (by omega), nsF_fr (k := 100 + 4 * p + 3) (by omega) (by omega)]
          have u1 := t6 k hk
          have u2 := sb k hk
          exact ⟨Int.le_trans u1.1 u2.1, Int.le_trans u2.2 u1.2⟩
        · rw [ns_nd, ns_hi]
          exact fun q => Int.le_trans (sb a t2).2 (t7 q)
        · rw [ns_nd, ns_lo]
          exact fun q => Int.le_trans (t8 q) (sb a t2).1
    · exact (hC.tv j (by omega)).fr' (g1 2 (by omega) (by omega) (by omega)) (g1 3 (by omega) (by omega) (by omega)) (fun k h1 h2 i _ => by rw [g1 k (by omega) (by omega) (by omega)])
theorem new_M {mm : Nat → Nat → Int32} {pv pa : Nat → Nat → Int64} (hC : CI n rc sz al c V) (h6 : sz < 600) (f1 : ∀ k, (k < 100 + 4 * sz ∨ 100 + 4 * sz + 4 ≤ k) → k ≠ 14 → m1 k = V k) (f2 : m1 14 = upd (V 14) 1 (nI (sz + 1))) (hP : mP n rc V mm) (hB : mBst V mm) (h17 : mm 40 17 = nI (sz + 1)) (h18 : mm 40 18 = V 14 2) (hK : mK V mm) (hX : mX V pv mm pa) (hV : mV n V mm) (hT : ∀ j, j < sz → mTj n V mm j) (t2 : mm 53 sz = m1 (100 + 4 * sz) 2) (t3 : mm 54 sz = m1 (100 + 4 * sz) 3) (t4 : mm 55 sz = m1 (100 + 4 * sz) 4) (t5 : mm 56 sz = m1 (100 + 4 * sz) 5) (t9 : mm 59 sz = -2) (hbx : ∀ k, k < n → mm 62 k = m1 (100 + 4 * sz + 2) k ∧ mm 63 k = m1 (100 + 4 * sz + 3) k) : MM n rc (sz + 1) (nsF m1 sz n rc) pv (nnF V mm sz n rc) pa := by
  have h8 := hC.n8
  have g1 : ∀ k, (k < 100 + 4 * sz ∨ 100 + 4 * sz + 4 ≤ k) → k ≠ 14 → k ≠ 16 → nsF m1 sz n rc k = V k := fun k h1 h2 h3 => by rw [nsF_fr h1 h3]; exact f1 k h1 h2
  have hT' : eqR n (nwF m1 n rc 1000 (m1 (100 + 4 * sz + 2), m1 (100 + 4 * sz + 3), m1 16 2)) (nwF V n rc 1000 (mm 62, mm 63, 1)) := by
    rw [nwF_congr hC.r16 (f1 4 (by omega) (by omega)) (f1 5 (by omega) (by omega)) (f1 6 (by omega) (by omega)) (f1 9 (by omega) (by omega)) (fun q hq => f1 _ (by omega) (by omega))]
    exact nwF_eqB fun k hk => ⟨(hbx k hk).1.symm, (hbx k hk).2.symm⟩
  refine ⟨mP.fr (μ := nnF V mm sz n rc) hP fun k hk => g1 k (by omega) (by omega) (by omega), ?_, ⟨h17, fun j hj => ?_⟩, ?_, ?_, ?_, ?_⟩
  · unfold mBst; rw [g1 9 (by omega) (by omega) (by omega)]; exact hB
  · by_cases e : j = sz
    · subst e
      rw [ns_nd, ns_lo, ns_hi]
      refine ⟨t2, t3, t4, t5, ?_, ?_, t9, fun k hk => ⟨?_, ?_⟩⟩
      · show upd (mm 57) j _ j = _
        rw [pk_us, ← hT'.1]; rfl
      · show upd (mm 58) j _ j = _
        rw [pk_us, ← hT'.1]; rfl
      · show wr8 _ (mm 60) j n (8 * j + k) = _
        unfold wr8
        rw [if_pos (by omega), show 8 * j + k - 8 * j = k by omega]
        exact (hT'.2.1 k hk).1.symm
      · show wr8 _ (mm 61) j n (8 * j + k) = _
        unfold wr8
        rw [if_pos (by omega), show 8 * j + k - 8 * j = k by omega]
        exact (hT'.2.1 k hk).2.symm
    · obtain ⟨u1, u2, u3, u4, u5, u6, u7, u8⟩ := hT j (by omega)
      rw [g1 (100 + 4 * j) (by omega) (by omega) (by omega), g1 (100 + 4 * j + 2) (by omega) (by omega) (by omega), g1 (100 + 4 * j + 3) (by omega) (by omega) (by omega)]
      refine ⟨u1, u2, u3, u4, ?_, ?_, u7, fun k hk => ⟨?_, ?_⟩⟩
      · show upd (mm 57) sz _ j = _
        rw [pk_un e]; exact u5
      · show upd (mm 58) sz _ j = _
        rw [pk_un e]; exact u6
      · show wr8 _ (mm 60) sz n (8 * j + k) = _
        unfold wr8
        rw [if_neg (by omega)]; exact (u8 k hk).1
      · show wr8 _ (mm 61) sz n (8 * j + k) = _
        unfold wr8
        rw [if_neg (by omega)]; exact (u8 k hk).2
  · show mm 40 18 = _
    rw [nsF_fr (by omega) (by omega), f2, pk_un (by omega)]; exact h18
  · unfold mK; rw [g1 22 (by omega) (by omega) (by omega), g1 23 (by omega) (by omega) (by omega)]; exact hK
  · unfold mX; rw [g1 13 (by omega) (by omega) (by omega)]; exact hX
  · unfold mV; rw [g1 9 (by omega) (by omega) (by omega), g1 10 (by omega) (by omega) (by omega)]; exact hV
end NEW
/-! cuts -/
def ctL (lo : Nat → Int32) (j : Nat) (sd v : Int32) : Nat → Int32 := if sd = 0 then lo else upd lo j (maxF (lo j) v)
def ctH (hi : Nat → Int32) (j : Nat) (sd v : Int32) : Nat → Int32 := if sd = 0 then upd hi j (minF (hi j) v) else hi
theorem cut_lo {μ : Nat → Nat → Int32} {kl kh j : Nat} {sd v : Int32} (h : kl ≠ kh) : cutF μ kl kh j sd v kl = ctL (μ kl) j sd v := by
  unfold cutF ctL
  split
  · rw [va_up_ne _ _ h]
  · rw [va_up_self]
theorem cut_hi {μ : Nat → Nat → Int32} {kl kh j : Nat} {sd v : Int32} (h : kl ≠ kh) : cutF μ kl kh j sd v kh = ctH (μ kh) j sd v := by
  unfold cutF ctH
  split
  · rw [va_up_self]
  · rw [va_up_ne _ _ (Ne.symm h)]
theorem ct_eq {lo hi lo' hi' : Nat → Int32} {n a : Nat} {sd v : Int32} (ha : a < n) (h : ∀ k, k < n → lo k = lo' k ∧ hi k = hi' k) : ∀ k, k < n → ctL lo a sd v k = ctL lo' a sd v k ∧ ctH hi a sd v k = ctH hi' a sd v k := by
  intro k hk
  unfold ctL ctH
  split
  · refine ⟨(h k hk).1, ?_⟩
    rw [(h a ha).2]
    exact upd_eq (fun k hk => (h k hk).2) k hk
  · refine ⟨?_, (h k hk).2⟩
    rw [(h a ha).1]
    exact upd_eq (fun k hk => (h k hk).1) k hk
theorem min_I {x y : Int32} : (minF x y).toInt ≤ x.toInt ∧ (minF x y).toInt ≤ y.toInt ∧ ((minF x y).toInt = x.toInt ∨ (minF x y).toInt = y.toInt) := by
  unfold minF
  by_cases c : y < x
  · rw [if_pos c]; rw [Int32.lt_iff_toInt_lt] at c; omega
  · rw [if_neg c]; rw [Int32.lt_iff_toInt_lt] at c; omega
theorem max_I {x y : Int32} : x.toInt ≤ (maxF x y).toInt ∧ y.toInt ≤ (maxF x y).toInt ∧ ((maxF x y).toInt = x.toInt ∨ (maxF x y).toInt = y.toInt) := by
  unfold maxF
  by_cases c : x < y
  · rw [if_pos c]; rw [Int32.lt_iff_toInt_lt] at c; omega
  · rw [if_neg c]; rw [Int32.lt_iff_toInt_lt] at c; omega
theorem ct_sub {lo hi : Nat → Int32} {a : Nat} {sd v : Int32} : (∀ k, (lo k).toInt ≤ (ctL lo a sd v k).toInt ∧ (ctH hi a sd v k).toInt ≤ (hi k).toInt) ∧ (sd = 0 → (ctH hi a sd v a).toInt ≤ v.toInt) ∧ (¬ sd = 0 → v.toInt ≤ (ctL lo a sd v a).toInt) := by
  unfold ctL ctH
  by_cases c : sd = 0
  · simp only [if_pos c]
    refine ⟨fun k => ⟨Int.le_refl _, ?_⟩, fun _ => ?_, fun q => absurd c q⟩
    · by_cases e : k = a
      · subst e; rw [pk_us]; exact min_I.1
      · rw [pk_un e]; exact Int.le_refl _
    · rw [pk_us]; exact min_I.2.1
  · simp only [if_neg c]
    refine ⟨fun k => ⟨?_, Int.le_refl _⟩, fun q => absurd q c, fun _ => ?_⟩
    · by_cases e : k = a
      · subst e; rw [pk_us]; exact max_I.1
      · rw [pk_un e]; exact Int.le_refl _
    · rw [pk_us]; exact max_I.2.1
/-- a box within the bounds and within the cut is within the cut bounds -/
theorem ct_in {lo hi : Nat → Int32} {a : Nat} {sd v : Int32} {L H : Nat → Int32} {n : Nat} (h : ∀ k, k < n → (lo k).toInt ≤ (L k).toInt ∧ (H k).toInt ≤ (hi k).toInt) (h0 : sd = 0 → (H a).toInt ≤ v.toInt) (h1 : ¬ sd = 0 → v.toInt ≤ (L a).toInt) : ∀ k, k < n → (ctL lo a sd v k).toInt ≤ (L k).toInt ∧ (H k).toInt ≤ (ctH hi a sd v k).toInt := by
  intro k hk
  have hh := h k hk
  unfold ctL ctH
  by_cases c : sd = 0
  · simp only [if_pos c]
    refine ⟨hh.1, ?_⟩
    by_cases e : k = a
    · subst e; rw [pk_us]
      have := min_I (x := hi k) (y := v)
      have := h0 c
      omega
    · rw [pk_un e]; exact hh.2
  · simp only [if_neg c]
    refine ⟨?_, hh.2⟩
    by_cases e : k = a
    · subst e; rw [pk_us]
      have := max_I (x := lo k) (y := v)
      have := h1 c
      omega
    · rw [pk_un e]; exact hh.1
theorem ct_bd {lo hi : Nat → Int32} {n a : Nat} {sd v : Int32} (hb : bdR n lo hi) (h0 : sd = 0 → (lo a).toInt ≤ v.toInt) (h1 : ¬ sd = 0 → v.toInt ≤ (hi a).toInt) : bdR n (ctL lo a sd v) (ctH hi a sd v) := by
  intro k hk
  obtain ⟨b1, b2, b3⟩ := hb k hk
  unfold ctL ctH
  by_cases c : sd = 0
  · simp only [if_pos c]
    by_cases e : k = a
    · subst e; rw [pk_us]
      have := min_I (x := hi k) (y := v)
      have := h0 c
      omega
    · rw [pk_un e]; omega
  · simp only [if_neg c]
    by_cases e : k = a
    · subst e; rw [pk_us]
      have := max_I (x := lo k) (y := v)
      have := h1 c
      omega
    · rw [pk_un e]; omega
