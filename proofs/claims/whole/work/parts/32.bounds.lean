/-! NARROWING in numbers -/
theorem M1 {g lo x sl : Int32} (g1 : ¬ g ≤ 0) (g2 : g.toInt ≤ 20) (b1 : -50 ≤ lo.toInt) (b2 : lo.toInt ≤ x.toInt) (b3 : x.toInt ≤ 50) (s1 : 0 ≤ sl) (s2 : sl.toInt ≤ 100000) : (g * x ≤ sl + g * lo ↔ x ≤ lo + sl / g) ∧ lo.toInt ≤ (lo + sl / g).toInt := by
  rw [Int32.le_iff_toInt_le, i0] at g1 s1
  obtain ⟨e1, e2, e3⟩ := tI_fx (f := g) (x := x) (by omega) g2 (by omega) b3
  obtain ⟨f1, f2, f3⟩ := tI_fx (f := g) (x := lo) (by omega) g2 b1 (by omega)
  have d1 : (sl / g).toInt = sl.toInt / g.toInt := by rw [tI_div (by omega) (by omega), Int.tdiv_eq_ediv_of_nonneg s1]
  have d2 : 0 ≤ sl.toInt / g.toInt := Int.ediv_nonneg s1 (by omega)
  have d3 : sl.toInt / g.toInt ≤ sl.toInt := Int.ediv_le_self _ s1
  have e4 : (lo + sl / g).toInt = lo.toInt + sl.toInt / g.toInt := by rw [tI_add (by omega) (by omega), d1]
  refine ⟨?_, by omega⟩
  rw [Int32.le_iff_toInt_le, Int32.le_iff_toInt_le, e1, e4, tI_add (by omega) (by omega), f1]
  have h : x.toInt - lo.toInt ≤ sl.toInt / g.toInt ↔ (x.toInt - lo.toInt) * g.toInt ≤ sl.toInt := Int.le_ediv_iff_mul_le (by omega)
  have h2 : (x.toInt - lo.toInt) * g.toInt = g.toInt * x.toInt - g.toInt * lo.toInt := by rw [Int.sub_mul, Int.mul_comm, Int.mul_comm lo.toInt]
  rw [h2] at h
  omega
theorem M2 {g hi x sl : Int32} (g1 : ¬ 0 ≤ g) (g2 : -20 ≤ g.toInt) (b1 : -50 ≤ x.toInt) (b2 : x.toInt ≤ hi.toInt) (b3 : hi.toInt ≤ 50) (s1 : 0 ≤ sl) (s2 : sl.toInt ≤ 100000) : (g * x ≤ sl + g * hi ↔ hi + sl / g ≤ x) ∧ (hi + sl / g).toInt ≤ hi.toInt := by
  rw [Int32.le_iff_toInt_le, i0] at g1 s1
  obtain ⟨e1, e2, e3⟩ := tI_fx (f := g) (x := x) g2 (by omega) b1 (by omega)
  obtain ⟨f1, f2, f3⟩ := tI_fx (f := g) (x := hi) g2 (by omega) (by omega) b3
  have d0 : sl.toInt.tdiv g.toInt = -(sl.toInt / (-g.toInt)) := by
    rw [← Int.neg_neg g.toInt, Int.tdiv_neg, Int.neg_neg, Int.tdiv_eq_ediv_of_nonneg s1]
  have d1 : (sl / g).toInt = -(sl.toInt / (-g.toInt)) := by rw [tI_div (by omega) (by omega), d0]
  have d2 : 0 ≤ sl.toInt / (-g.toInt) := Int.ediv_nonneg s1 (by omega)
  have d3 : sl.toInt / (-g.toInt) ≤ sl.toInt := Int.ediv_le_self _ s1
  have e4 : (hi + sl / g).toInt = hi.toInt - sl.toInt / (-g.toInt) := by rw [tI_add (by omega) (by omega), d1]; omega
  refine ⟨?_, by omega⟩
  rw [Int32.le_iff_toInt_le, Int32.le_iff_toInt_le, e1, e4, tI_add (by omega) (by omega), f1]
  have h : hi.toInt - x.toInt ≤ sl.toInt / (-g.toInt) ↔ (hi.toInt - x.toInt) * (-g.toInt) ≤ sl.toInt := Int.le_ediv_iff_mul_le (by omega)
  have h2 : (hi.toInt - x.toInt) * (-g.toInt) = g.toInt * x.toInt - g.toInt * hi.toInt := by
    rw [Int.sub_mul, Int.mul_neg, Int.mul_neg, Int.mul_comm, Int.mul_comm x.toInt]; omega
  rw [h2] at h
  omega
theorem i32_tr {a b : Int32} (h : ¬ a ≤ b) : b.toInt < a.toInt := by
  rw [Int32.le_iff_toInt_le] at h; omega
theorem i32_le {a b : Int32} (h : a ≤ b) : a.toInt ≤ b.toInt := Int32.le_iff_toInt_le.mp h
/-- one NAME keeps the bounds in order and LEAST as it is -/
theorem clS_ok {f : Nat → Int32} {sg sl : Int32} {n j : Nat} {s : zB} (hj : j < n) (hf : fcR n (fun k => sg * f k)) (hb : bdR n s.1 s.2.1) (s1 : 0 ≤ sl) (s2 : sl.toInt ≤ 100000) : bdR n (clS f sg sl j s).1 (clS f sg sl j s).2.1 ∧ ∀ k, k < n → tmF (sg * f k) ((clS f sg sl j s).1 k) ((clS f sg sl j s).2.1 k) = tmF (sg * f k) (s.1 k) (s.2.1 k) := by
  obtain ⟨b1, b2, b3⟩ := hb j hj
  obtain ⟨g1, g2⟩ := hf j hj
  unfold clS
  by_cases c1 : sg * f j ≤ 0
  · rw [if_pos c1]
    by_cases c2 : 0 ≤ sg * f j
    · rw [if_pos c2]; exact ⟨hb, fun _ _ => rfl⟩
    · rw [if_neg c2]
      by_cases c3 : s.2.1 j + sl / (sg * f j) ≤ s.1 j
      · rw [if_pos c3]; exact ⟨hb, fun _ _ => rfl⟩
      · rw [if_neg c3]
        obtain ⟨-, m2⟩ := M2 c2 g1 b1 b2 b3 s1 s2
        have m3 := i32_tr c3
        refine ⟨fun k hk => ?_, fun k hk => ?_⟩
        · by_cases e : k = j
          · subst e
            show _ ≤ (upd s.1 k _ k).toInt ∧ (upd s.1 k _ k).toInt ≤ _ ∧ _
            rw [pk_us]; exact ⟨by omega, m2, b3⟩
          · show _ ≤ (upd s.1 j _ k).toInt ∧ (upd s.1 j _ k).toInt ≤ _ ∧ _
            rw [pk_un e]; exact hb k hk
        · by_cases e : k = j
          · subst e
            unfold tmF; rw [if_pos c1, if_pos c1]
          · show tmF _ (upd s.1 j _ k) _ = _
            rw [pk_un e]
  · rw [if_neg c1]
    by_cases c3 : s.2.1 j ≤ s.1 j + sl / (sg * f j)
    · rw [if_pos c3]; exact ⟨hb, fun _ _ => rfl⟩
    · rw [if_neg c3]
      obtain ⟨-, m2⟩ := M1 c1 g2 b1 b2 b3 s1 s2
      have m3 := i32_tr c3
      refine ⟨fun k hk => ?_, fun k hk => ?_⟩
      · by_cases e : k = j
        · subst e
          show _ ≤ (s.1 k).toInt ∧ _ ≤ (upd s.2.1 k _ k).toInt ∧ (upd s.2.1 k _ k).toInt ≤ _
          rw [pk_us]; exact ⟨b1, m2, by omega⟩
        · show _ ≤ (s.1 k).toInt ∧ _ ≤ (upd s.2.1 j _ k).toInt ∧ (upd s.2.1 j _ k).toInt ≤ _
          rw [pk_un e]; exact hb k hk
      · by_cases e : k = j
        · subst e
          unfold tmF; rw [if_neg c1, if_neg c1]
        · show tmF _ _ (upd s.2.1 j _ k) = _
          rw [pk_un e]
theorem lsF_congr {g lo hi lo' hi' : Nat → Int32} : ∀ n, (∀ k, k < n → tmF (g k) (lo k) (hi k) = tmF (g k) (lo' k) (hi' k)) → lsF g lo hi n = lsF g lo' hi' n
  | 0, _ => rfl
  | n + 1, h => by simp only [lsF]; rw [lsF_congr n (fun k hk => h k (by omega)), h n (by omega)]
theorem clN_ok {f : Nat → Int32} {sg sl : Int32} {n : Nat} {s : zB} (hf : fcR n (fun k => sg * f k)) (hb : bdR n s.1 s.2.1) (s1 : 0 ≤ sl) (s2 : sl.toInt ≤ 100000) : ∀ i, i ≤ n → bdR n (clN f sg sl i s).1 (clN f sg sl i s).2.1 ∧ ∀ k, k < n → tmF (sg * f k) ((clN f sg sl i s).1 k) ((clN f sg sl i s).2.1 k) = tmF (sg * f k) (s.1 k) (s.2.1 k)
  | 0, _ => ⟨hb, fun _ _ => rfl⟩
  | i + 1, h => by
    obtain ⟨h1, h2⟩ := clN_ok hf hb s1 s2 i (by omega)
    obtain ⟨h3, h4⟩ := clS_ok (j := i) (by omega) hf h1 s1 s2
    exact ⟨h3, fun k hk => (h4 k hk).trans (h2 k hk)⟩

