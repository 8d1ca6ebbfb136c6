/-! ROUNDS shorten the spans -/
theorem ls_bd {g lo hi : Nat → Int32} : ∀ n, n ≤ 8 → fcR n g → bdR n lo hi → -(1000 * n : Int) ≤ (lsF g lo hi n).toInt ∧ (lsF g lo hi n).toInt ≤ 1000 * n
  | 0, _, _, _ => by simp only [lsF, i0]; omega
  | n + 1, h8, hf, hb => by
    obtain ⟨h1, h2⟩ := ls_bd (g := g) (lo := lo) (hi := hi) n (by omega) (fun k hk => hf k (by omega)) (fun k hk => hb k (by omega))
    obtain ⟨b1, b2, b3⟩ := hb n (by omega)
    obtain ⟨f1, f2⟩ := hf n (by omega)
    have ht : -1000 ≤ (tmF (g n) (lo n) (hi n)).toInt ∧ (tmF (g n) (lo n) (hi n)).toInt ≤ 1000 := by
      unfold tmF
      split
      · obtain ⟨e, e1, e2⟩ := tI_fx (f := g n) (x := hi n) f1 f2 (by omega) b3
        rw [e]; exact ⟨e1, e2⟩
      · obtain ⟨e, e1, e2⟩ := tI_fx (f := g n) (x := lo n) f1 f2 b1 (by omega)
        rw [e]; exact ⟨e1, e2⟩
    simp only [lsF]
    rw [tI_add (by omega) (by omega)]
    omega
theorem sl_ok {g lo hi : Nat → Int32} {n : Nat} {right : Int32} (hn : n ≤ 8) (hf : fcR n g) (hb : bdR n lo hi) (r1 : -20000 ≤ right.toInt) (r2 : right.toInt ≤ 20000) : (right - lsF g lo hi n).toInt ≤ 100000 ∧ (lsF g lo hi n ≤ right ↔ 0 ≤ right - lsF g lo hi n) := by
  obtain ⟨h1, h2⟩ := ls_bd n hn hf hb
  have e : (right - lsF g lo hi n).toInt = right.toInt - (lsF g lo hi n).toInt := tI_sub (by omega) (by omega)
  refine ⟨by omega, ?_⟩
  rw [Int32.le_iff_toInt_le, Int32.le_iff_toInt_le, e, i0]
  omega
def spS (s : zB) : Nat → Nat
  | 0 => 0
  | n + 1 => spS s n + ((s.2.1 n).toInt - (s.1 n).toInt).toNat
theorem spS_le {s s' : zB} : ∀ n, (∀ k, k < n → ((s'.2.1 k).toInt - (s'.1 k).toInt).toNat ≤ ((s.2.1 k).toInt - (s.1 k).toInt).toNat) → spS s' n ≤ spS s n
  | 0, _ => Nat.le_refl _
  | n + 1, h => Nat.add_le_add (spS_le n (fun k hk => h k (by omega))) (h n (by omega))
theorem spS_lt {s s' : zB} {j : Nat} : ∀ n, j < n → (∀ k, k < n → ((s'.2.1 k).toInt - (s'.1 k).toInt).toNat ≤ ((s.2.1 k).toInt - (s.1 k).toInt).toNat) → ((s'.2.1 j).toInt - (s'.1 j).toInt).toNat < ((s.2.1 j).toInt - (s.1 j).toInt).toNat → spS s' n < spS s n
  | 0, hj, _, _ => by omega
  | n + 1, hj, h, hl => by
    by_cases e : j = n
    · subst e
      exact Nat.add_lt_add_of_le_of_lt (spS_le j (fun k hk => h k (by omega))) hl
    · exact Nat.add_lt_add_of_lt_of_le (spS_lt n (by omega) (fun k hk => h k (by omega)) hl) (h n (by omega))
theorem clS_sp {f : Nat → Int32} {sg sl : Int32} {n j : Nat} {s : zB} (hj : j < n) (hf : fcR n (fun k => sg * f k)) (hb : bdR n s.1 s.2.1) (s1 : 0 ≤ sl) (s2 : sl.toInt ≤ 100000) : clS f sg sl j s = s ∨ spS (clS f sg sl j s) n < spS s n := by
  obtain ⟨b1, b2, b3⟩ := hb j hj
  obtain ⟨g1, g2⟩ := hf j hj
  unfold clS
  by_cases c1 : sg * f j ≤ 0
  · rw [if_pos c1]
    by_cases c2 : 0 ≤ sg * f j
    · rw [if_pos c2]; exact Or.inl rfl
    · rw [if_neg c2]
      by_cases c3 : s.2.1 j + sl / (sg * f j) ≤ s.1 j
      · rw [if_pos c3]; exact Or.inl rfl
      · rw [if_neg c3]
        obtain ⟨-, m2⟩ := M2 c2 g1 b1 b2 b3 s1 s2
        have m3 := i32_tr c3
        refine Or.inr (spS_lt (j := j) n hj (fun k hk => ?_) ?_)
        · by_cases e : k = j
          · subst e
            show ((s.2.1 k).toInt - (upd s.1 k _ k).toInt).toNat ≤ _
            rw [pk_us]; omega
          · show ((s.2.1 k).toInt - (upd s.1 j _ k).toInt).toNat ≤ _
            rw [pk_un e]; exact Nat.le_refl _
        · show ((s.2.1 j).toInt - (upd s.1 j _ j).toInt).toNat < _
          rw [pk_us]; omega
  · rw [if_neg c1]
    by_cases c3 : s.2.1 j ≤ s.1 j + sl / (sg * f j)
    · rw [if_pos c3]; exact Or.inl rfl
    · rw [if_neg c3]
      obtain ⟨-, m2⟩ := M1 c1 g2 b1 b2 b3 s1 s2
      have m3 := i32_tr c3
      refine Or.inr (spS_lt (j := j) n hj (fun k hk => ?_) ?_)
      · by_cases e : k = j
        · subst e
          show ((upd s.2.1 k _ k).toInt - (s.1 k).toInt).toNat ≤ _
          rw [pk_us]; omega
        · show ((upd s.2.1 j _ k).toInt - (s.1 k).toInt).toNat ≤ _
          rw [pk_un e]; exact Nat.le_refl _
      · show ((upd s.2.1 j _ j).toInt - (s.1 j).toInt).toNat < _
        rw [pk_us]; omega
/-- bounds in order; the same, or shorter -/
def shr (n : Nat) (s s' : zB) : Prop := bdR n s'.1 s'.2.1 ∧ (s' = s ∨ spS s' n < spS s n)
theorem shr.tr {n : Nat} {a b c : zB} (h : shr n a b) (g : shr n b c) : shr n a c := by
  refine ⟨g.1, ?_⟩
  rcases h.2 with rfl | h2
  · exact g.2
  · rcases g.2 with rfl | g2
    · exact Or.inr h2
    · exact Or.inr (Nat.lt_trans g2 h2)
theorem clN_sh {f : Nat → Int32} {sg sl : Int32} {n : Nat} {s : zB} (hf : fcR n (fun k => sg * f k)) (hb : bdR n s.1 s.2.1) (s1 : 0 ≤ sl) (s2 : sl.toInt ≤ 100000) : ∀ i, i ≤ n → shr n s (clN f sg sl i s)
  | 0, _ => ⟨hb, Or.inl rfl⟩
  | i + 1, h => by
    have ih := clN_sh hf hb s1 s2 i (by omega)
    exact ih.tr ⟨(clS_ok (j := i) (by omega) hf ih.1 s1 s2).1, clS_sp (by omega) hf ih.1 s1 s2⟩
theorem closesF_sh {f : Nat → Int32} {sg right : Int32} {n : Nat} {s : zB} (hn : n ≤ 8) (hf : fcR n (fun k => sg * f k)) (hb : bdR n s.1 s.2.1) (r1 : -20000 ≤ right.toInt) (r2 : right.toInt ≤ 20000) : shr n s (closesF f sg right n s).2 := by
  unfold closesF
  split
  · rename_i c
    rw [bl_ls] at c ⊢
    exact clN_sh hf hb c (sl_ok hn hf hb r1 r2).1 n (Nat.le_refl _)
  · exact ⟨hb, Or.inl rfl⟩
theorem closesF_congr {f f' : Nat → Int32} {sg right : Int32} {n : Nat} (h : ∀ k, k < n → f k = f' k) (s : zB) : closesF f sg right n s = closesF f' sg right n s := by
  have e1 : ∀ (s : zB) i, i ≤ n → bl s.1 s.2.1 f sg i = bl s.1 s.2.1 f' sg i := by
    intro s i
    induction i with
    | zero => intro _; rfl
    | succ i ih => intro hi; simp only [bl, ih (by omega), h i (by omega)]
  have e2 : ∀ (s : zB) sl i, i ≤ n → clN f sg sl i s = clN f' sg sl i s := by
    intro s sl i
    induction i with
    | zero => intro _; rfl
    | succ i ih => intro hi; simp only [clN, clS, ih (by omega), h i (by omega)]
  unfold closesF
  rw [e1 s n (Nat.le_refl _), e2 s _ n (Nat.le_refl _)]
/-- a problem's numbers, within their limits -/
def vR (n rc : Nat) (V : Nat → Nat → Int32) : Prop := n ≤ 8 ∧ rc ≤ 16 ∧ (∀ r, r < rc → fcR n (V (24 + r)) ∧ -1000 ≤ (V 6 r).toInt ∧ (V 6 r).toInt ≤ 1000) ∧ fcR n (V 4) ∧ (¬ V 9 1 = 0 → -8000 ≤ (V 9 2).toInt ∧ (V 9 2).toInt ≤ 8000)
theorem one_mul32 (x : Int32) : 1 * x = x := by grind
theorem m1_mul32 (x : Int32) : (-1) * x = -x := by grind
theorem fc_1 {n : Nat} {f : Nat → Int32} (h : fcR n f) : fcR n (fun k => 1 * f k) := fun k hk => by
  show -20 ≤ (1 * f k).toInt ∧ (1 * f k).toInt ≤ 20
  rw [one_mul32]; exact h k hk
theorem fc_m1 {n : Nat} {f : Nat → Int32} (h : fcR n f) : fcR n (fun k => (-1) * f k) := fun k hk => by
  obtain ⟨h1, h2⟩ := h k hk
  show -20 ≤ ((-1) * f k).toInt ∧ ((-1) * f k).toInt ≤ 20
  rw [m1_mul32, tI_neg (by omega)]; omega
theorem stF_sh {V : Nat → Nat → Int32} {n rc r : Nat} {sg : Int32} (hV : vR n rc V) (hr : r < rc) (hsg : sg = 1 ∨ sg = -1) {next : zB → Int32 × zB} (hnx : ∀ s, bdR n s.1 s.2.1 → shr n s (next s).2) (s : zB) (hb : bdR n s.1 s.2.1) : shr n s (stF (V 5 r) (V (24 + r)) (V 6 r) sg n r next s).2 := by
  obtain ⟨hn, hrc, hrw, -, -⟩ := hV
  obtain ⟨f1, r1, r2⟩ := hrw r hr
  have h1 : shr n s (rsF (V 5 r) (V (24 + r)) (V 6 r) sg n s).2 := by
    unfold rsF
    split
    · exact ⟨hb, Or.inl rfl⟩
    · rcases hsg with rfl | rfl
      · exact closesF_sh hn (fc_1 f1) hb (by rw [one_mul32]; omega) (by rw [one_mul32]; omega)
      · have e : ((-1) * V 6 r).toInt = -(V 6 r).toInt := by rw [m1_mul32, tI_neg (by omega)]
        exact closesF_sh hn (fc_m1 f1) hb (by omega) (by omega)
  unfold stF
  split
  · exact h1.tr (hnx _ h1.1)
  · exact h1
theorem goF_sh {V : Nat → Nat → Int32} {n rc : Nat} (hV : vR n rc V) : ∀ (k r : Nat), r + k ≤ rc → ∀ s : zB, bdR n s.1 s.2.1 → shr n s (goF V n k r s).2
  | 0, r, _, s, hb => by
    obtain ⟨hn, -, -, f4, hbest⟩ := hV
    unfold goF ceF
    split
    · exact ⟨hb, Or.inl rfl⟩
    · rename_i c
      obtain ⟨p1, p2⟩ := hbest c
      have e : (V 9 2 - 1).toInt = (V 9 2).toInt - 1 := by
        rw [tI_sub (by rw [show (1 : Int32).toInt = 1 by decide]; omega) (by rw [show (1 : Int32).toInt = 1 by decide]; omega)]; rfl
      have := closesF_sh (sg := 1) (right := V 9 2 - 1) hn (fc_1 f4) hb (by omega) (by omega)
      split <;> exact this
  | k + 1, r, hk, s, hb => by
    unfold goF
    exact stF_sh hV (by omega) (Or.inl rfl) (stF_sh hV (by omega) (Or.inr rfl) (fun s hb => goF_sh hV k (r + 1) (by omega) s hb)) s hb
/-- a round that changed something has shortened the spans -/
theorem goF_ch {V : Nat → Nat → Int32} {n rc : Nat} (hV : vR n rc V) {lo hi : Nat → Int32} (hb : bdR n lo hi) (hc : ¬ (goF V n rc 0 (lo, hi, 0)).2.2.2 = 0) : spS (goF V n rc 0 (lo, hi, 0)).2 n < spS (lo, hi, 0) n := by
  rcases (goF_sh hV rc 0 (by omega) (lo, hi, 0) hb).2 with h | h
  · exact absurd (by rw [h]) hc
  · exact h
theorem spS_ch {lo hi : Nat → Int32} {c c' : Int32} : ∀ n, spS (lo, hi, c) n = spS (lo, hi, c') n
  | 0 => rfl
  | n + 1 => by
    have := spS_ch (lo := lo) (hi := hi) (c := c) (c' := c') n
    simp only [spS, this]
theorem spS_bd {s : zB} : ∀ n, bdR n s.1 s.2.1 → spS s n ≤ 100 * n
  | 0, _ => Nat.le_refl _
  | n + 1, h => by
    have := spS_bd n (fun k hk => h k (by omega))
    obtain ⟨a, b, c⟩ := h n (by omega)
    simp only [spS]; omega
/-- enough rounds are as good as more -/
theorem nwF_fuel {V : Nat → Nat → Int32} {n rc : Nat} (hV : vR n rc V) : ∀ (k k' : Nat) (s : zB), bdR n s.1 s.2.1 → spS s n < k → spS s n < k' → nwF V n rc k s = nwF V n rc k' s
  | 0, _, s, _, h, _ => by omega
  | _, 0, s, _, _, h => by omega
  | k + 1, k' + 1, s, hb, h1, h2 => by
    simp only [nwF]
    by_cases c1 : (goF V n rc 0 (s.1, s.2.1, 0)).1 = -2
    · by_cases c2 : (goF V n rc 0 (s.1, s.2.1, 0)).2.2.2 = 0
      · simp only [c1, c2, not_true_eq_false, if_false]
      · have hl := goF_ch hV hb c2
        have e : spS (s.1, s.2.1, (0 : Int32)) n = spS s n := spS_ch (c' := s.2.2) n
        rw [e] at hl
        simp only [c1, c2, not_true_eq_false, not_false_eq_true, if_false, if_true]
        exact nwF_fuel hV k k' _ (goF_sh hV rc 0 (by omega) (s.1, s.2.1, 0) hb).1 (by omega) (by omega)
    · simp only [c1, not_false_eq_true, if_true]

