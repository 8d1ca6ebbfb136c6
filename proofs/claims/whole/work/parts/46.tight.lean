/-! NARROWING: it reads the first n bounds, and only tightens them -/
def eqN (n : Nat) (s s' : zB) : Prop := (∀ k, k < n → s.1 k = s'.1 k ∧ s.2.1 k = s'.2.1 k) ∧ s.2.2 = s'.2.2
def eqR (n : Nat) (a b : Int32 × zB) : Prop := a.1 = b.1 ∧ eqN n a.2 b.2
theorem upd_eq {f g : Nat → Int32} {n j : Nat} {x : Int32} (h : ∀ k, k < n → f k = g k) : ∀ k, k < n → upd f j x k = upd g j x k := by
  intro k hk
  unfold upd
  rw [h k hk]
theorem bl_eqN {f : Nat → Int32} {sg : Int32} {n : Nat} {s s' : zB} (h : eqN n s s') : ∀ i, i ≤ n → bl s.1 s.2.1 f sg i = bl s'.1 s'.2.1 f sg i
  | 0, _ => rfl
  | i + 1, hi => by
    show bl s.1 s.2.1 f sg i + _ = bl s'.1 s'.2.1 f sg i + _
    rw [bl_eqN h i (by omega), (h.1 i (by omega)).1, (h.1 i (by omega)).2]
theorem clS_eqN {f : Nat → Int32} {sg sl : Int32} {n j : Nat} {s s' : zB} (hj : j < n) (h : eqN n s s') : eqN n (clS f sg sl j s) (clS f sg sl j s') := by
  obtain ⟨e1, e2⟩ := h.1 j hj
  unfold clS
  rw [e1, e2]
  split
  · split
    · exact h
    · split
      · exact h
      · exact ⟨fun k hk => ⟨upd_eq (fun k hk => (h.1 k hk).1) k hk, (h.1 k hk).2⟩, rfl⟩
  · split
    · exact h
    · exact ⟨fun k hk => ⟨(h.1 k hk).1, upd_eq (fun k hk => (h.1 k hk).2) k hk⟩, rfl⟩
theorem clN_eqN {f : Nat → Int32} {sg sl : Int32} {n : Nat} {s s' : zB} (h : eqN n s s') : ∀ i, i ≤ n → eqN n (clN f sg sl i s) (clN f sg sl i s')
  | 0, _ => h
  | i + 1, hi => clS_eqN (by omega) (clN_eqN h i (by omega))
theorem closesF_eqN {f : Nat → Int32} {sg right : Int32} {n : Nat} {s s' : zB} (h : eqN n s s') : eqR n (closesF f sg right n s) (closesF f sg right n s') := by
  unfold closesF
  rw [bl_eqN h n (Nat.le_refl _)]
  split
  · exact ⟨rfl, clN_eqN h n (Nat.le_refl _)⟩
  · exact ⟨rfl, h⟩
theorem rsF_eqN {f : Nat → Int32} {se right sg : Int32} {n : Nat} {s s' : zB} (h : eqN n s s') : eqR n (rsF se f right sg n s) (rsF se f right sg n s') := by
  unfold rsF
  split
  · exact ⟨rfl, h⟩
  · exact closesF_eqN h
theorem stF_eqN {f : Nat → Int32} {se right sg : Int32} {n r : Nat} {next : zB → Int32 × zB} (hnx : ∀ s s', eqN n s s' → eqR n (next s) (next s')) {s s' : zB} (h : eqN n s s') : eqR n (stF se f right sg n r next s) (stF se f right sg n r next s') := by
  have g := rsF_eqN (f := f) (se := se) (right := right) (sg := sg) h
  unfold stF
  rw [g.1]
  split
  · exact hnx _ _ g.2
  · exact ⟨rfl, g.2⟩
theorem ceF_eqN {fnd low : Int32} {cs : Nat → Int32} {n : Nat} {s s' : zB} (h : eqN n s s') : eqR n (ceF fnd low cs n s) (ceF fnd low cs n s') := by
  have g := closesF_eqN (f := cs) (sg := 1) (right := low - 1) h
  unfold ceF
  rw [g.1]
  split
  · exact ⟨rfl, h⟩
  · split
    · exact ⟨rfl, g.2⟩
    · exact ⟨rfl, g.2⟩
theorem goF_eqN {V : Nat → Nat → Int32} {n : Nat} : ∀ (k r : Nat) {s s' : zB}, eqN n s s' → eqR n (goF V n k r s) (goF V n k r s')
  | 0, r, s, s', h => ceF_eqN h
  | k + 1, r, s, s', h => stF_eqN (fun s s' h => stF_eqN (fun s s' h => goF_eqN k (r + 1) h) h) h
theorem nwF_eqN {V : Nat → Nat → Int32} {n rc : Nat} : ∀ (k : Nat) {s s' : zB}, eqN n s s' → eqR n (nwF V n rc k s) (nwF V n rc k s')
  | 0, s, s', h => ⟨rfl, h⟩
  | k + 1, s, s', h => by
    have h0 : eqN n (s.1, s.2.1, 0) (s'.1, s'.2.1, 0) := ⟨h.1, rfl⟩
    have g := goF_eqN (V := V) rc 0 h0
    unfold nwF
    rw [g.1, g.2.2]
    split
    · exact g
    · split
      · exact nwF_eqN k g.2
      · exact g
/-- the same, whatever the flag was -/
theorem nwF_eqB {V : Nat → Nat → Int32} {n rc k : Nat} {lo hi lo' hi' : Nat → Int32} {x y : Int32} (h : ∀ k, k < n → lo k = lo' k ∧ hi k = hi' k) : eqR n (nwF V n rc (k + 1) (lo, hi, x)) (nwF V n rc (k + 1) (lo', hi', y)) := by
  have e : nwF V n rc (k + 1) (lo', hi', y) = nwF V n rc (k + 1) (lo', hi', x) := rfl
  rw [e]
  exact nwF_eqN (k + 1) ⟨h, rfl⟩
theorem nwF_congr {m V : Nat → Nat → Int32} {n rc : Nat} (hrc : rc ≤ 16) (h4 : m 4 = V 4) (h5 : m 5 = V 5) (h6 : m 6 = V 6) (h9 : m 9 = V 9) (hr : ∀ q, q < 16 → m (24 + q) = V (24 + q)) : ∀ k s, nwF m n rc k s = nwF V n rc k s
  | 0, s => rfl
  | k + 1, s => by
    unfold nwF
    rw [goF_congr h4 h5 h6 h9 hr rc 0 (by omega), nwF_congr hrc h4 h5 h6 h9 hr k]
/-- tightened -/
def sbN (n : Nat) (s s' : zB) : Prop := ∀ k, k < n → (s.1 k).toInt ≤ (s'.1 k).toInt ∧ (s'.2.1 k).toInt ≤ (s.2.1 k).toInt
theorem sbN.rf {n : Nat} {s : zB} : sbN n s s := fun _ _ => ⟨Int.le_refl _, Int.le_refl _⟩
theorem sbN.tr {n : Nat} {a b c : zB} (h : sbN n a b) (g : sbN n b c) : sbN n a c := fun k hk => ⟨Int.le_trans (h k hk).1 (g k hk).1, Int.le_trans (g k hk).2 (h k hk).2⟩
theorem clS_sb {f : Nat → Int32} {sg sl : Int32} {n j : Nat} {s : zB} : sbN n s (clS f sg sl j s) := by
  unfold clS
  split
  · split
    · exact sbN.rf
    · split
      · exact sbN.rf
      · rename_i c
        intro k hk
        refine ⟨?_, Int.le_refl _⟩
        show _ ≤ (upd s.1 j _ k).toInt
        by_cases e : k = j
        · subst e; rw [pk_us]; rw [Int32.le_iff_toInt_le] at c; omega
        · rw [pk_un e]; exact Int.le_refl _
  · split
    · exact sbN.rf
    · rename_i c
      intro k hk
      refine ⟨Int.le_refl _, ?_⟩
      show (upd s.2.1 j _ k).toInt ≤ _
      by_cases e : k = j
      · subst e; rw [pk_us]; rw [Int32.le_iff_toInt_le] at c; omega
      · rw [pk_un e]; exact Int.le_refl _
theorem clN_sb {f : Nat → Int32} {sg sl : Int32} {n : Nat} {s : zB} : ∀ i, sbN n s (clN f sg sl i s)
  | 0 => sbN.rf
  | i + 1 => (clN_sb i).tr clS_sb
theorem closesF_sb {f : Nat → Int32} {sg right : Int32} {n : Nat} {s : zB} : sbN n s (closesF f sg right n s).2 := by
  unfold closesF
  split
  · exact clN_sb n
  · exact sbN.rf
theorem stF_sb {f : Nat → Int32} {se right sg : Int32} {n r : Nat} {next : zB → Int32 × zB} (hnx : ∀ s, sbN n s (next s).2) {s : zB} : sbN n s (stF se f right sg n r next s).2 := by
  have g : sbN n s (rsF se f right sg n s).2 := by
    unfold rsF
    split
    · exact sbN.rf
    · exact closesF_sb
  unfold stF
  split
  · exact g.tr (hnx _)
  · exact g
theorem goF_sb {V : Nat → Nat → Int32} {n : Nat} : ∀ (k r : Nat) {s : zB}, sbN n s (goF V n k r s).2
  | 0, r, s => by
    have g := closesF_sb (f := V 4) (sg := 1) (right := V 9 2 - 1) (n := n) (s := s)
    unfold goF ceF
    split
    · exact sbN.rf
    · split
      · exact g
      · exact g
  | k + 1, r, s => stF_sb (fun s => stF_sb (fun s => goF_sb k (r + 1)))
theorem nwF_sb {V : Nat → Nat → Int32} {n rc : Nat} : ∀ (k : Nat) {s : zB}, sbN n s (nwF V n rc k s).2
  | 0, s => sbN.rf
  | k + 1, s => by
    have g : sbN n s (goF V n rc 0 (s.1, s.2.1, 0)).2 := goF_sb rc 0 (s := (s.1, s.2.1, 0))
    unfold nwF
    split
    · exact g
    · split
      · exact g.tr (nwF_sb k)
      · exact g
theorem nwF_bd {V : Nat → Nat → Int32} {n rc : Nat} (hV : vR n rc V) : ∀ (k : Nat) {s : zB}, bdR n s.1 s.2.1 → bdR n (nwF V n rc k s).2.1 (nwF V n rc k s).2.2.1
  | 0, s, h => h
  | k + 1, s, h => by
    have g := (goF_sh hV rc 0 (by omega) (s.1, s.2.1, 0) h).1
    unfold nwF
    split
    · exact g
    · split
      · exact nwF_bd hV k g
      · exact g
/-- the middle -/
theorem fd_tab : ∀ i : Fin 201, (fdF (Int32.ofInt ((i.val : Int) - 100)) 2).toInt = ((i.val : Int) - 100) / 2 := by decide +kernel
theorem fd_2 {x : Int32} (h1 : -100 ≤ x.toInt) (h2 : x.toInt ≤ 100) : (fdF x 2).toInt = x.toInt / 2 := by
  have h := fd_tab ⟨(x.toInt + 100).toNat, by omega⟩
  have e : (((x.toInt + 100).toNat : Nat) : Int) - 100 = x.toInt := by omega
  simp only [e, Int32.ofInt_toInt] at h
  exact h
