/-! MODEL: check -/
abbrev zP : Type := (Nat → Int32) × (Nat → Int32)
/-- the bounds cut on the road to the root -/
def chB (V : Nat → Nat → Int32) : Nat → Nat → zP → zP
  | 0, _, s => s
  | f + 1, q, s => if V (100 + 4 * q) 2 < 0 then s else chB V f (V (100 + 4 * q) 2).toNatClampNeg (ctL s.1 (V (100 + 4 * q) 3).toNatClampNeg (V (100 + 4 * q) 4) (V (100 + 4 * q) 5), ctH s.2 (V (100 + 4 * q) 3).toNatClampNeg (V (100 + 4 * q) 4) (V (100 + 4 * q) 5))
def okN (V : Nat → Nat → Int32) (n rc j : Nat) : Int32 := (nwF V n rc 1000 ((chB V 600 j (V 2, V 3)).1, (chB V 600 j (V 2, V 3)).2, 1)).1
def kcF (V : Nat → Nat → Int32) (p : Nat) : Nat → Int32
  | 0 => 0
  | i + 1 => if ¬ V (100 + 4 * i) 2 = nI p then kcF V p i else kcF V p i + 1
def ckM (V : Nat → Nat → Int32) (sz n rc : Nat) : Nat → Nat → Int32
  | 0, _ => 1
  | k + 1, i => if V (100 + 4 * i) 7 = 0 then 0 else if ¬ V (100 + 4 * i) 7 = 1 then (if okN V n rc i = -2 then 0 else ckM V sz n rc k (i + 1)) else (if kcF V i sz = 2 then ckM V sz n rc k (i + 1) else 0)
section CHAIN
variable {n rc sz al c : Nat} {V : Nat → Nat → Int32}
theorem ch_root {f q : Nat} {s : zP} (h : V (100 + 4 * q) 2 = -1) : chB V (f + 1) q s = s := by
  unfold chB; rw [h, if_pos (by decide)]
theorem ch_kid {f q p a : Nat} {s : zP} (hp : V (100 + 4 * q) 2 = nI p) (ha : V (100 + 4 * q) 3 = nI a) (h6 : p < 2 ^ 31) (h8 : a < 2 ^ 31) : chB V (f + 1) q s = chB V f p (ctL s.1 a (V (100 + 4 * q) 4) (V (100 + 4 * q) 5), ctH s.2 a (V (100 + 4 * q) 4) (V (100 + 4 * q) 5)) := by
  have e : chB V (f + 1) q s = if V (100 + 4 * q) 2 < 0 then s else chB V f (V (100 + 4 * q) 2).toNatClampNeg (ctL s.1 (V (100 + 4 * q) 3).toNatClampNeg (V (100 + 4 * q) 4) (V (100 + 4 * q) 5), ctH s.2 (V (100 + 4 * q) 3).toNatClampNeg (V (100 + 4 * q) 4) (V (100 + 4 * q) 5)) := rfl
  rw [e, hp, if_neg (nI_nn h6), nI_clamp h6, ha, nI_clamp h8]
theorem ch_eq (h8 : n ≤ 8) (h6 : sz ≤ 600) (ht : ∀ j, j < sz → tv n V j) : ∀ (f q : Nat) (s s' : zP), q < sz → (∀ k, k < n → s.1 k = s'.1 k ∧ s.2 k = s'.2 k) → ∀ k, k < n → (chB V f q s).1 k = (chB V f q s').1 k ∧ (chB V f q s).2 k = (chB V f q s').2 k
  | 0, q, s, s', _, h => h
  | f + 1, q, s, s', hq, h => by
    rcases ht q hq with ⟨-, h1, -⟩ | ⟨p, a, h1, h2, h3, h4, -⟩
    · rw [ch_root h1, ch_root h1]; exact h
    · rw [ch_kid h3 h4 (by omega) (by omega), ch_kid h3 h4 (by omega) (by omega)]
      exact ch_eq h8 h6 ht f p _ _ (by omega) (ct_eq h2 h)
theorem bx_in (ht : ∀ j, j < sz → tv n V j) : ∀ (f j : Nat), j < f → j < sz → ∀ k, k < n → (V 2 k).toInt ≤ (V (100 + 4 * j + 2) k).toInt ∧ (V (100 + 4 * j + 3) k).toInt ≤ (V 3 k).toInt
  | 0, j, h, _ => absurd h (Nat.not_lt_zero _)
  | f + 1, j, hf, hj => by
    intro k hk
    rcases ht j hj with ⟨-, -, -, -, h4⟩ | ⟨p, a, h1, h2, h3, h4, h5, h6, -⟩
    · exact h4 k hk
    · have u := bx_in ht f p (by omega) (by omega) k hk
      have w := h6 k hk
      omega
/-- a node's box lies within the cut bounds, and these within the spans -/
theorem ch_in (h8 : n ≤ 8) (h6 : sz ≤ 600) (ht : ∀ j, j < sz → tv n V j) {L H : Nat → Int32} : ∀ (f q : Nat) (s : zP), q < sz → (∀ k, k < n → (s.1 k).toInt ≤ (L k).toInt ∧ (H k).toInt ≤ (s.2 k).toInt) → (∀ k, k < n → (V (100 + 4 * q + 2) k).toInt ≤ (L k).toInt ∧ (H k).toInt ≤ (V (100 + 4 * q + 3) k).toInt) → ∀ k, k < n → ((chB V f q s).1 k).toInt ≤ (L k).toInt ∧ (H k).toInt ≤ ((chB V f q s).2 k).toInt ∧ (s.1 k).toInt ≤ ((chB V f q s).1 k).toInt ∧ ((chB V f q s).2 k).toInt ≤ (s.2 k).toInt
  | 0, q, s, _, h, _ => fun k hk => ⟨(h k hk).1, (h k hk).2, Int.le_refl _, Int.le_refl _⟩
  | f + 1, q, s, hq, h, hb => by
    intro k hk
    rcases ht q hq with ⟨-, h1, -⟩ | ⟨p, a, h1, h2, h3, h4, h5, g6, g7, g8⟩
    · rw [ch_root h1]; exact ⟨(h k hk).1, (h k hk).2, Int.le_refl _, Int.le_refl _⟩
    · rw [ch_kid h3 h4 (by omega) (by omega)]
      have hc := ct_in (lo := s.1) (hi := s.2) (a := a) (sd := V (100 + 4 * q) 4) (v := V (100 + 4 * q) 5) (L := L) (H := H) (n := n) h (fun z => Int.le_trans (hb a h2).2 (g7 z)) (fun z => Int.le_trans (g8 z) (hb a h2).1)
      have u := ch_in h8 h6 ht (L := L) (H := H) f p (ctL s.1 a (V (100 + 4 * q) 4) (V (100 + 4 * q) 5), ctH s.2 a (V (100 + 4 * q) 4) (V (100 + 4 * q) 5)) (by omega) hc (fun k hk => by have u1 := g6 k hk; have u2 := hb k hk; omega) k hk
      have w := (ct_sub (lo := s.1) (hi := s.2) (a := a) (sd := V (100 + 4 * q) 4) (v := V (100 + 4 * q) 5)).1 k
      exact ⟨u.1, u.2.1, Int.le_trans w.1 u.2.2.1, Int.le_trans u.2.2.2 w.2⟩
theorem ch_bd (hC : CI n rc sz al c V) {j : Nat} (hj : j < sz) {s : zP} (hs : ∀ k, k < n → s.1 k = V 2 k ∧ s.2 k = V 3 k) : bdR n (chB V 600 j s).1 (chB V 600 j s).2 := by
  intro k hk
  have h8 := hC.n8
  have h6 := hC.sz6
  have u := ch_in h8 h6 hC.tv (L := V (100 + 4 * j + 2)) (H := V (100 + 4 * j + 3)) 600 j s hj (fun k hk => by rw [(hs k hk).1, (hs k hk).2]; exact bx_in hC.tv 600 j (by omega) hj k hk) (fun k hk => ⟨Int.le_refl _, Int.le_refl _⟩) k hk
  have b := (hC.tB j hj).1 k hk
  have w := hC.1.2.1 k (by omega)
  rw [(hs k hk).1, (hs k hk).2] at u
  omega
theorem ok_eq (hC : CI n rc sz al c V) {j : Nat} (hj : j < sz) {s : zP} {W : Nat → Nat → Int32} {x : Int32} (hs : ∀ k, k < n → s.1 k = V 2 k ∧ s.2 k = V 3 k) (hW : ∀ k, k < 10 ∨ (24 ≤ k ∧ k < 40) → W k = V k) : (nwF W n rc 1000 ((chB V 600 j s).1, (chB V 600 j s).2, x)).1 = okN V n rc j := by
  unfold okN
  rw [nwF_congr hC.r16 (hW 4 (by omega)) (hW 5 (by omega)) (hW 6 (by omega)) (hW 9 (by omega)) (fun q hq => hW _ (by omega))]
  exact (nwF_eqB (k := 999) (ch_eq hC.n8 hC.sz6 hC.tv 600 j s (V 2, V 3) hj hs)).1
/-! the class's side -/
theorem cc_11 {m : Nat → Nat → Int32} {i k r : Nat} (hr : r ≠ 11) : ccS sz m i k r = m k r := by
  have e : ∀ (g : Nat → Nat → Int32) (p : Nat) (y : Int32), va_up g (100 + 4 * p) (upd (g (100 + 4 * p)) 11 y) k r = g k r := fun g p y => by
    by_cases q : k = 100 + 4 * p
    · subst q; rw [va_up_self, pk_un hr]
    · rw [va_up_ne _ _ q]
  unfold ccS
  cases atO sz (m (100 + 4 * i) 2) with
  | none => exact e _ _ _
  | some p => exact (e _ _ _).trans (e _ _ _)
theorem cc_4 {m : Nat → Nat → Int32} {i k : Nat} (hk : ¬ k % 4 = 0) : ccS sz m i k = m k := by
  unfold ccS
  cases atO sz (m (100 + 4 * i) 2) with
  | none => show va_up _ _ _ k = m k; rw [va_up_ne _ _ (by omega)]
  | some p => show va_up _ _ _ k = m k; rw [va_up_ne _ _ (by omega), va_up_ne _ _ (by omega)]
theorem ccF_11 {k r : Nat} (hr : r ≠ 11) : ∀ i, ccF sz V i k r = V k r
  | 0 => rfl
  | i + 1 => (cc_11 hr).trans (ccF_11 hr i)
theorem ccF_4 {k : Nat} (hk : ¬ k % 4 = 0) : ∀ i, ccF sz V i k = V k
  | 0 => rfl
  | i + 1 => (cc_4 hk).trans (ccF_4 hk i)
theorem kc_0 (h6 : sz ≤ 600) (ht : ∀ j, j < sz → tv n V j) {p : Nat} (hp : p < sz) : ∀ k, k ≤ p + 1 → kcF V p k = 0
  | 0, _ => rfl
  | k + 1, hk => by
    have ih := kc_0 h6 ht hp k (by omega)
    have hne : ¬ V (100 + 4 * k) 2 = nI p := by
      rcases ht k (by omega) with ⟨-, h1, -⟩ | ⟨q, a, h1, h2, h3, -⟩
      · rw [h1]; exact m1_ne (by omega)
      · rw [h3]; intro z
        have : q = p := (nI_eq (by omega) (by omega)).mp z
        omega
    show (if ¬ V (100 + 4 * k) 2 = nI p then kcF V p k else kcF V p k + 1) = 0
    rw [if_pos hne, ih]
theorem at_kid {p : Nat} (hp : p < sz) (h6 : sz ≤ 600) : atO sz (nI p) = some p := by
  unfold atO
  rw [if_neg (nI_nn (by omega)), if_neg (nI_ge hp (by omega)), nI_clamp (by omega)]
theorem at_root : atO sz (-1) = none := by
  unfold atO
  rw [if_pos (by decide)]
theorem cc_kc (h6 : sz ≤ 600) (ht : ∀ j, j < sz → tv n V j) : ∀ (i : Nat), i ≤ sz → ∀ p, p < i → ccF sz V i (100 + 4 * p) 11 = kcF V p i
  | 0, _, p, hp => absurd hp (Nat.not_lt_zero _)
  | i + 1, hi, p, hp => by
    have ih := cc_kc h6 ht i (by omega)
    have e2 : ccF sz V i (100 + 4 * i) 2 = V (100 + 4 * i) 2 := ccF_11 (by decide) i
    have eS : ccF sz V (i + 1) = ccS sz (ccF sz V i) i := rfl
    have eK : kcF V p (i + 1) = if ¬ V (100 + 4 * i) 2 = nI p then kcF V p i else kcF V p i + 1 := rfl
    rw [eS]
    unfold ccS
    rw [e2]
    rcases ht i (by omega) with ⟨h0, h1, -⟩ | ⟨q, a, h1, h2, h3, -⟩
    · rw [h1, at_root]
      show va_up (ccF sz V i) (100 + 4 * i) _ (100 + 4 * p) 11 = _
      have : p = i := by omega
      subst this
      rw [va_up_self, pk_us, kc_0 h6 ht (by omega) (p + 1) (Nat.le_refl _)]
    · rw [h3, at_kid (by omega) h6]
      show va_up (va_up (ccF sz V i) (100 + 4 * i) _) (100 + 4 * q) _ (100 + 4 * p) 11 = _
      by_cases e : p = i
      · subst e
        rw [va_up_ne _ _ (by omega), va_up_self, pk_us, kc_0 h6 ht (by omega) (p + 1) (Nat.le_refl _)]
      · by_cases eq : p = q
        · subst eq
          rw [va_up_self, pk_us, va_up_ne _ _ (by omega), ih p (by omega), eK, h3, if_neg (fun z => z rfl)]
        · rw [va_up_ne _ _ (by omega), va_up_ne _ _ (by omega), ih p (by omega), eK, h3, if_pos (fun z => eq ((nI_eq (by omega) (by omega)).mp z).symm)]
theorem cb_eq (h8 : n ≤ 8) (h6 : sz ≤ 600) (ht : ∀ j, j < sz → tv n V j) : ∀ (f q : Nat) (m : Nat → Nat → Int32), q < f → q < sz → (∀ k r, 100 ≤ k → r ≠ 11 → m k r = V k r) → m 1 7 = nI n → cbL sz f (some q) m 20 = (chB V f q (m 20, m 21)).1 ∧ cbL sz f (some q) m 21 = (chB V f q (m 20, m 21)).2
  | 0, q, m, h, _, _, _ => absurd h (Nat.not_lt_zero _)
  | f + 1, q, m, hf, hq, hm, hN => by
    have e : cbL sz (f + 1) (some q) m = cbL sz f (atO sz (m (100 + 4 * q) 2)) (cbS m q) := rfl
    rw [e, hm (100 + 4 * q) 2 (by omega) (by decide)]
    rcases ht q hq with ⟨-, h1, h2, -⟩ | ⟨p, a, h1, h2, h3, h4, -⟩
    · have eb : cbS m q = m := by
        unfold cbS; rw [hm _ 3 (by omega) (by decide), h2, if_pos (by unfold hasN; rw [if_pos (by decide)])]
      rw [h1, at_root, eb, ch_root h1]
      cases f with
      | zero => exact ⟨rfl, rfl⟩
      | succ f => exact ⟨rfl, rfl⟩
    · have eb : cbS m q = cutF m 20 21 a (V (100 + 4 * q) 4) (V (100 + 4 * q) 5) := by
        unfold cbS
        rw [hm _ 3 (by omega) (by decide), hm _ 4 (by omega) (by decide), hm _ 5 (by omega) (by decide), h4, hN, if_neg (by unfold hasN; rw [if_neg (nI_nn (by omega)), if_neg (nI_ge h2 (by omega))]; decide), nI_clamp (by omega)]
      rw [h3, at_kid (by omega) h6, eb, ch_kid h3 h4 (by omega) (by omega)]
      have ih := cb_eq h8 h6 ht f p (cutF m 20 21 a (V (100 + 4 * q) 4) (V (100 + 4 * q) 5)) (by omega) (by omega) (fun k r hk hr => by rw [cutF_fr (by omega) (by omega)]; exact hm k r hk hr) (by rw [cutF_fr (by omega) (by omega)]; exact hN)
      rw [cut_lo (by decide), cut_hi (by decide)] at ih
      exact ih
theorem ip_eq (hC : CI n rc sz al c V) {m : Nat → Nat → Int32} {j : Nat} (hj : j < sz) (hm : ∀ k r, 100 ≤ k → r ≠ 11 → m k r = V k r) (hL : ∀ k, k < 10 ∨ (24 ≤ k ∧ k < 40) → m k = V k) (h11 : m (100 + 4 * j) 11 = kcF V j sz) : (ipF sz n rc m j).1 = if ¬ V (100 + 4 * j) 7 = 1 then (if okN V n rc j = -2 then 0 else 1) else (if kcF V j sz = 2 then 1 else 0) := by
  have h6 := hC.sz6
  have h8 := hC.n8
  have c0 : ∀ k, k < 10 ∨ (24 ≤ k ∧ k < 40) → cbF sz m j k = V k := fun k hk => by rw [cbF_fr (by omega) (by omega)]; exact hL k hk
  have cb := cb_eq h8 h6 hC.tv 600 j (cpF m 20 21 2 3 8) (by omega) hj (fun k r hk hr => by rw [cpF_fr (by omega) (by omega)]; exact hm k r hk hr) (by rw [cpF_fr (by decide) (by decide), hL 1 (by omega)]; exact hC.N)
  have e20 : cbF sz m j 20 = _ := cb.1
  have e21 : cbF sz m j 21 = _ := cb.2
  have hn : (nwF (cbF sz m j) n rc 1000 (cbF sz m j 20, cbF sz m j 21, cbF sz m j 16 2)).1 = okN V n rc j := by
    rw [e20, e21]
    refine ok_eq hC hj (fun k hk => ⟨?_, ?_⟩) c0
    · show cpF m 20 21 2 3 8 20 k = V 2 k
      rw [cp_lo (by decide), cpn_lt (by omega), hL 2 (by omega)]
    · show cpF m 20 21 2 3 8 21 k = V 3 k
      rw [cp_hi, cpn_lt (by omega), hL 3 (by omega)]
  unfold ipF
  rw [hm (100 + 4 * j) 7 (by omega) (by decide), hn, h11]
  split
  · rfl
  · show (if ¬ kcF V j sz = 2 then (0 : Int32) else 1) = _
    by_cases z : kcF V j sz = 2
    · rw [if_neg (fun q => q z), if_pos z]
    · rw [if_pos z, if_neg z]
theorem ho_fr {k : Nat} (h1 : k ≠ 20) (h2 : k ≠ 21) (h3 : k ≠ 16) : ∀ (f i : Nat) (m : Nat → Nat → Int32), (hoL sz n rc f i m).2 k = m k
  | 0, _, m => rfl
  | f + 1, i, m => by
    unfold hoL
    split
    · rw [ho_fr h1 h2 h3 f, ipF_fr h1 h2 h3]
    · exact ipF_fr h1 h2 h3
theorem ho_eq (hC : CI n rc sz al c V) (hop : ∀ q, q < sz → ¬ V (100 + 4 * q) 7 = 0) : ∀ (f i : Nat) (m : Nat → Nat → Int32), i + f = sz → (∀ k, k ≠ 20 → k ≠ 21 → k ≠ 16 → m k = ccF sz V sz k) → (hoL sz n rc f i m).1 = ckM V sz n rc f i
  | 0, _, m, _, _ => rfl
  | f + 1, i, m, hi, hm => by
    have hip := ip_eq hC (m := m) (j := i) (by omega) (fun k r hk hr => by rw [hm k (by omega) (by omega) (by omega)]; exact ccF_11 hr sz) (fun k hk => by rw [hm k (by omega) (by omega) (by omega)]; exact ccF_fr (by omega) sz) (by rw [hm _ (by omega) (by omega) (by omega)]; exact cc_kc hC.sz6 hC.tv sz (Nat.le_refl _) i (by omega))
    have ih := ho_eq hC hop f (i + 1) (ipF sz n rc m i).2 (by omega) (fun k h1 h2 h3 => by rw [ipF_fr h1 h2 h3]; exact hm k h1 h2 h3)
    have n1 : ¬ (1 : Int32) = 0 := by decide
    unfold hoL ckM
    rw [if_neg (hop i (by omega))]
    by_cases c1 : V (100 + 4 * i) 7 = 1
    · rw [if_neg (fun q => q c1)] at hip
      rw [if_neg (c := ¬ V (100 + 4 * i) 7 = 1) (fun q => q c1)]
      by_cases c2 : kcF V i sz = 2
      · rw [if_pos c2] at hip
        rw [if_pos c2, if_pos (by rw [hip]; exact n1)]; exact ih
      · rw [if_neg c2] at hip
        rw [if_neg c2, if_neg (fun q => q hip)]
    · rw [if_pos c1] at hip
      rw [if_pos (c := ¬ V (100 + 4 * i) 7 = 1) c1]
      by_cases c2 : okN V n rc i = -2
      · rw [if_pos c2] at hip
        rw [if_pos c2, if_neg (fun q => q hip)]
      · rw [if_neg c2] at hip
        rw [if_neg c2, if_pos (by rw [hip]; exact n1)]; exact ih
theorem cn_all : ∀ i, i ≤ 600 → (cnF V 0 i ≤ 0 ↔ ∀ q, q < i → ¬ V (100 + 4 * q) 7 = 0)
  | 0, _ => ⟨fun _ q hq => absurd hq (Nat.not_lt_zero _), fun _ => by show (0 : Int32) ≤ 0; decide⟩
  | i + 1, h => by
    have ih := cn_all i (by omega)
    have hb := cn_bd (V := V) i (by omega)
    have e1 : (Int32.ofInt 1).toInt = 1 := by decide
    by_cases c : V (100 + 4 * i) 7 = 0
    · refine ⟨fun q => ?_, fun q => absurd c (q i (by omega))⟩
      simp only [cnF] at q
      rw [if_neg (fun q => q c), Int32.le_iff_toInt_le, tI_add (by omega) (by omega), e1, i0] at q
      omega
    · have g : cnF V 0 (i + 1) = cnF V 0 i := by simp only [cnF]; rw [if_pos c]
      rw [g, ih]
      refine ⟨fun q j hj => ?_, fun q j hj => q j (by omega)⟩
      by_cases e : j = i
      · subst e; exact c
      · exact q j (by omega)
theorem ck_0 {q : Nat} (hq : V (100 + 4 * q) 7 = 0) : ∀ (f i : Nat), i ≤ q → q < i + f → ckM V sz n rc f i = 0
  | 0, i, h1, h2 => by omega
  | f + 1, i, h1, h2 => by
    unfold ckM
    by_cases e : q = i
    · subst e; rw [if_pos hq]
    · have ih := ck_0 hq f (i + 1) (by omega) (by omega)
      rw [ih]; simp
theorem ho_M (hC : CI n rc sz al c V) : (hoF sz n rc V).1 = ckM V sz n rc sz 0 := by
  have h6 := hC.sz6
  unfold hoF
  by_cases c1 : cnF V 0 sz ≤ 0
  · rw [if_pos c1]
    exact ho_eq hC ((cn_all sz h6).mp c1) sz 0 _ (by omega) (fun _ _ _ _ => rfl)
  · rw [if_neg c1]
    have : ∃ q, q < sz ∧ V (100 + 4 * q) 7 = 0 := by
      apply Classical.byContradiction
      intro z
      exact c1 ((cn_all sz h6).mpr fun q hq w => z ⟨q, hq, w⟩)
    obtain ⟨q, hq, w⟩ := this
    exact (ck_0 w sz 0 (Nat.zero_le _) (by omega)).symm
theorem ck_01 : ∀ (f i : Nat), ckM V sz n rc f i = 0 ∨ ckM V sz n rc f i = 1
  | 0, _ => Or.inr rfl
  | f + 1, i => by
    have ih := ck_01 f (i + 1)
    unfold ckM
    split
    · exact Or.inl rfl
    · split
      · split
        · exact Or.inl rfl
        · exact ih
      · split
        · exact ih
        · exact Or.inl rfl
/-- the rows that check writes are read by nobody -/
def ckE (V W : Nat → Nat → Int32) : Prop := (∀ k, k < 100 → k ≠ 16 → k ≠ 20 → k ≠ 21 → W k = V k) ∧ (∀ k, 100 ≤ k → ¬ k % 4 = 0 → W k = V k) ∧ ∀ k i, 100 ≤ k → i ≠ 11 → W k i = V k i
theorem ck_E : ckE V (hoF sz n rc V).2 := by
  unfold hoF
  split
  · refine ⟨fun k h1 h2 h3 h4 => ?_, fun k h1 h2 => ?_, fun k i h1 h2 => ?_⟩
    · rw [ho_fr h3 h4 h2]; exact ccF_fr h1 sz
    · rw [ho_fr (by omega) (by omega) (by omega)]; exact ccF_4 h2 sz
    · rw [ho_fr (by omega) (by omega) (by omega)]; exact ccF_11 h2 sz
  · exact ⟨fun _ _ _ _ _ => rfl, fun _ _ _ => rfl, fun _ _ _ _ => rfl⟩
theorem CI.ck {W : Nat → Nat → Int32} (hC : CI n rc sz al c V) (e : ckE V W) : CI n rc sz al c W := by
  obtain ⟨e1, e2, e3⟩ := e
  obtain ⟨h1, h2, h3, h4, t1, t2, t3, t4, t5, t6⟩ := hC
  refine ⟨h1.fr fun k hk => e1 k (by omega) (by omega) (by omega) (by omega), h2.fr (e1 22 (by omega) (by omega) (by omega) (by omega)) (e1 23 (by omega) (by omega) (by omega) (by omega)), h3.fr (e1 9 (by omega) (by omega) (by omega) (by omega)), h4.fr (e1 13 (by omega) (by omega) (by omega) (by omega)), by rw [e1 14 (by omega) (by omega) (by omega) (by omega)]; exact t1, t2, t3, fun j hj => by rw [e3 _ _ (by omega) (by decide)]; exact t4 j hj, fun j hj => ?_, fun j hj => ?_⟩
  · rw [e3 (100 + 4 * j) 8 (by omega) (by decide), e2 (100 + 4 * j + 2) (by omega) (by omega), e2 (100 + 4 * j + 3) (by omega) (by omega), e1 4 (by omega) (by omega) (by omega) (by omega)]
    exact t5 j hj
  · refine (t6 j hj).fr' (e1 2 (by omega) (by omega) (by omega) (by omega)) (e1 3 (by omega) (by omega) (by omega) (by omega)) (fun k h1 h2 i hi => ?_)
    by_cases hk : k % 4 = 0
    · exact e3 k i h1 (by omega)
    · rw [e2 k h1 hk]
theorem MM.ck {W μ : Nat → Nat → Int32} {pv pa : Nat → Nat → Int64} (hM : MM n rc sz V pv μ pa) (e : ckE V W) : MM n rc sz W pv μ pa := by
  obtain ⟨e1, e2, e3⟩ := e
  obtain ⟨q1, q2, q3, q4, q5, q6, q7⟩ := hM
  have f : ∀ k, k < 16 ∨ (21 < k ∧ k < 40) → W k = V k := fun k hk => e1 k (by omega) (by omega) (by omega) (by omega)
  refine ⟨q1.fr fun k hk => f k (by omega), ?_, ⟨q3.1, fun j hj => ?_⟩, ?_, ?_, ?_, ?_⟩
  · unfold mBst; rw [f 9 (by omega)]; exact q2
  · rw [e3 _ 2 (by omega) (by decide), e3 _ 3 (by omega) (by decide), e3 _ 4 (by omega) (by decide), e3 _ 5 (by omega) (by decide), e3 _ 7 (by omega) (by decide), e3 _ 9 (by omega) (by decide), e3 _ 10 (by omega) (by decide), e2 (100 + 4 * j + 2) (by omega) (by omega), e2 (100 + 4 * j + 3) (by omega) (by omega)]
    exact q3.2 j hj
  · rw [f 14 (by omega)]; exact q4
  · unfold mK; rw [f 22 (by omega), f 23 (by omega)]; exact q5
  · unfold mX; rw [f 13 (by omega)]; exact q6
  · unfold mV; rw [f 9 (by omega), f 10 (by omega)]; exact q7
theorem setM_sc {μ : Nat → Nat → Int32} {s : zB} : sc μ (setM μ s) := by
  unfold setM
  exact ⟨fun k a b c => by rw [va_up_ne _ _ a, va_up_ne _ _ c, va_up_ne _ _ b], fun i a b => by rw [va_up_self, pk_un b]⟩
end CHAIN
section MCHECK
variable {l : Launch} {E : zE} {ad : Nat → Nat} {n rc sz al al2 c : Nat} {V μ : Nat → Nat → Int32} {pv pa : Nat → Nat → Int64}
set_option maxRecDepth 100000 in
set_option maxHeartbeats 4000000 in
theorem lpC_Mo_check {X : zX} (C : zc X E b_Mo_check 4 "BranchTreesModel" (zR 3)) (hM : MM n rc sz V pv μ pa) (h6 : sz ≤ 600) {p : Nat} {h : zH} (hR : zRep E ad al2 μ pa h) (kn : zz X E 4 ad 0 0 81 [some (.ref (ad 40)), some (.int (nI p)), some (.int (kcF V p sz)), some (.int (nI sz))] [] h) :
    ∀ (d q : Nat), sz - q = d → q ≤ sz → zz X E 4 ad 0 0 49 [some (.ref (ad 40)), some (.int (nI p)), some (.int (kcF V p q)), some (.int (nI q))] [] h := by
  intro d
  induction d with
  | zero =>
    intro q hd hq
    have e : q = sz := by omega
    subst e
    refine zz_iload_n C d_Mo_check_49 rfl rfl ?_
    refine zz_aload_n C d_Mo_check_50 rfl rfl ?_
    refine zz_getV C hR (nI q) _ d_Mo_check_51 zf_Mo_92 rfl rfl hM.S ?_
    refine zz_icmp_ge (tgt := 81) C d_Mo_check_54 (by decide) (fun c_54 => ?_) (fun c_54 => ?_)
    · exact kn
    · exact absurd (nI_le (Nat.le_refl _) (by omega)) c_54
  | succ d ih =>
    intro q hd hq
    have hlt : q < sz := by omega
    have K := ih (q + 1) (by omega) hlt
    have eK : kcF V p (q + 1) = if ¬ V (100 + 4 * q) 2 = nI p then kcF V p q else kcF V p q + 1 := rfl
    rw [eK] at K
    refine zz_iload_n C d_Mo_check_49 rfl rfl ?_
    refine zz_aload_n C d_Mo_check_50 rfl rfl ?_
    refine zz_getV C hR (nI sz) _ d_Mo_check_51 zf_Mo_92 rfl rfl hM.S ?_
    refine zz_icmp_ge (tgt := 81) C d_Mo_check_54 (by decide) (fun c_54 => ?_) (fun c_54 => ?_)
    · exact absurd c_54 (nI_ge hlt (by omega))
    · refine zz_aload_n C d_Mo_check_57 rfl rfl ?_
      refine zz_get C d_Mo_check_58 zf_Mo_52 ((hR _).trans rfl) rfl ?_
      refine zz_iload_n C d_Mo_check_61 rfl rfl ?_
      refine zz_ialdV (j := q) C hR (V (100 + 4 * q) 2) d_Mo_check_62 (fun _ _ => rfl) rfl (by omega) (by decide) (hM.2.2.1.2 q hlt).1 ?_
      refine zz_iload_n C d_Mo_check_63 rfl rfl ?_
      refine zz_icmp_ne (tgt := 73) C d_Mo_check_64 (by decide) (fun c_64 => ?_) (fun c_64 => ?_)
      · rw [if_pos c_64] at K
        refine zz_iload_n C d_Mo_check_73 rfl rfl ?_
        refine zz_istore_n C d_Mo_check_74 rfl (by decide) rfl ?_
        refine zz_iinc C d_Mo_check_75 rfl (nI_inc _) (by decide) rfl ?_
        refine zz_goto (tgt := 49) C d_Mo_check_78 (by decide) ?_
        exact K
      · rw [if_neg (fun z => z c_64)] at K
        refine zz_iload_n C d_Mo_check_67 rfl rfl ?_
        refine zz_iconst (v := 1) C d_Mo_check_68 (by decide) ?_
        refine zz_iadd C d_Mo_check_69 ?_
        refine zz_goto (tgt := 74) C d_Mo_check_70 (by decide) ?_
        refine zz_istore_n C d_Mo_check_74 rfl (by decide) rfl ?_
        refine zz_iinc C d_Mo_check_75 rfl (nI_inc _) (by decide) rfl ?_
        refine zz_goto (tgt := 49) C d_Mo_check_78 (by decide) ?_
        exact K
set_option maxRecDepth 100000 in
set_option maxHeartbeats 4000000 in
theorem lpB_Mo_check {X : zX} (C : zc X E b_Mo_check 4 "BranchTreesModel" (zR 3)) (h8 : n ≤ 8) (h6 : sz ≤ 600) (ht : ∀ j, j < sz → tv n V j) {i : Nat} {w3 : Option Value} {S : zP} {μ0 : Nat → Nat → Int32} (kn : ∀ m h w2, sc μ0 m → m 62 = S.1 → m 63 = S.2 → zRep E ad al2 m pa h → zz X E 4 ad 0 0 139 [some (.ref (ad 40)), some (.int (nI i)), w2, w3] [] h) :
    ∀ (f q : Nat) (μ : Nat → Nat → Int32), q < f → q < sz → MM n rc sz V pv μ pa → sc μ0 μ → chB V f q (μ 62, μ 63) = S → ∀ h, zRep E ad al2 μ pa h → zz X E 4 ad 0 0 98 [some (.ref (ad 40)), some (.int (nI i)), some (.int (nI q)), w3] [] h := by
  intro f
  induction f with
  | zero => intro q μ hf; exact absurd hf (Nat.not_lt_zero _)
  | succ f ih =>
    intro q μ hf hq hM hsc hS h hR
    obtain ⟨u2, u3, u4, u5, -⟩ := hM.2.2.1.2 q hq
    rcases ht q hq with ⟨-, h1, -⟩ | ⟨p, a, h1, h2, h3, h4, -⟩
    · rw [ch_root h1] at hS
      subst hS
      rw [h1] at u2
      refine zz_aload_n C d_Mo_check_98 rfl rfl ?_
      refine zz_get C d_Mo_check_99 zf_Mo_52 ((hR _).trans rfl) rfl ?_
      refine zz_iload_n C d_Mo_check_102 rfl rfl ?_
      refine zz_ialdV (j := q) C hR (-1) d_Mo_check_103 (fun _ _ => rfl) rfl (by omega) (by decide) u2 ?_
      refine zz_if_lt (tgt := 139) C d_Mo_check_104 (by decide) (fun c_104 => ?_) (fun c_104 => ?_)
      · exact kn μ h _ hsc rfl rfl hR
      · exact absurd (by decide) c_104
    · rw [ch_kid h3 h4 (by omega) (by omega)] at hS
      rw [h3] at u2
      rw [h4] at u3
      refine zz_aload_n C d_Mo_check_98 rfl rfl ?_
      refine zz_get C d_Mo_check_99 zf_Mo_52 ((hR _).trans rfl) rfl ?_
      refine zz_iload_n C d_Mo_check_102 rfl rfl ?_
      refine zz_ialdV (j := q) C hR (nI p) d_Mo_check_103 (fun _ _ => rfl) rfl (by omega) (by decide) u2 ?_
      refine zz_if_lt (tgt := 139) C d_Mo_check_104 (by decide) (fun c_104 => ?_) (fun c_104 => ?_)
      · exact absurd c_104 (nI_nn (by omega))
      · refine zz_aload_n C d_Mo_check_107 rfl rfl ?_
        refine zz_aload_n C d_Mo_check_108 rfl rfl ?_
        refine zz_get C d_Mo_check_109 zf_Mo_55 ((hR _).trans rfl) rfl ?_
        refine zz_iload_n C d_Mo_check_112 rfl rfl ?_
        refine zz_ialdV (j := q) C hR (nI a) d_Mo_check_113 (fun _ _ => rfl) rfl (by omega) (by decide) u3 ?_
        refine zz_aload_n C d_Mo_check_114 rfl rfl ?_
        refine zz_get C d_Mo_check_115 zf_Mo_58 ((hR _).trans rfl) rfl ?_
        refine zz_iload_n C d_Mo_check_118 rfl rfl ?_
        refine zz_ialdV (j := q) C hR (V (100 + 4 * q) 4) d_Mo_check_119 (fun _ _ => rfl) rfl (by omega) (by decide) u4 ?_
        refine zz_aload_n C d_Mo_check_120 rfl rfl ?_
        refine zz_get C d_Mo_check_121 zf_Mo_61 ((hR _).trans rfl) rfl ?_
        refine zz_iload_n C d_Mo_check_124 rfl rfl ?_
        refine zz_ialdV (j := q) C hR (V (100 + 4 * q) 5) d_Mo_check_125 (fun _ _ => rfl) rfl (by omega) (by decide) u5 ?_
        refine zz_callVv (e := 0) C hR d_Mo_check_126 mk_Mo_158 zy_Mo_cut (m_Mo_cut (j := a) (by omega)) ⟨by decide, by decide⟩ ⟨Nat.zero_le _, Nat.zero_le _⟩ rfl rfl rfl rfl (Nat.le_of_ble_eq_true rfl) (fun h hR => ?_)
        refine zz_aload_n C d_Mo_check_129 rfl rfl ?_
        refine zz_get C d_Mo_check_130 zf_Mo_52 ((hR _).trans rfl) rfl ?_
        refine zz_iload_n C d_Mo_check_133 rfl rfl ?_
        refine zz_ialdV (j := q) C hR (nI p) d_Mo_check_134 (fun _ _ => rfl) rfl (by omega) (by decide) (by rw [cutF_fr (by decide) (by decide)]; exact u2) ?_
        refine zz_istore_n C d_Mo_check_135 rfl (by decide) rfl ?_
        refine zz_goto (tgt := 98) C d_Mo_check_136 (by decide) ?_
        exact ih p _ (by omega) (by omega) (hM.sc cutF_sc) (hsc.tr cutF_sc) (by rw [cut_lo (by decide), cut_hi (by decide)]; exact hS) h hR
set_option maxRecDepth 100000 in
set_option maxHeartbeats 4000000 in
theorem lp_Mo_check {X : zX} (C : zc X E b_Mo_check 4 "BranchTreesModel" (zR 3)) {post : Option Value → (Nat → Nat) → zH → Prop} (Z : zr X E (some .int) 0 0 post) (hC : CI n rc sz al c V) {S : Int32} {μ0 : Nat → Nat → Int32} (hpost : ∀ m h, sc μ0 m → zRep E ad al2 m pa h → post (some (.int S)) ad h) :
    ∀ (d i : Nat) (μ : Nat → Nat → Int32) (w2 w3 : Option Value), sz - i = d → i ≤ sz → MM n rc sz V pv μ pa → sc μ0 μ → ckM V sz n rc d i = S → ∀ h, zRep E ad al2 μ pa h → zz X E 4 ad 0 0 16 [some (.ref (ad 40)), some (.int (nI i)), w2, w3] [] h := by
  have h8 := hC.n8
  have h6 := hC.sz6
  intro d
  induction d with
  | zero =>
    intro i μ w2 w3 hd hi hM hsc hS h hR
    have e : i = sz := by omega
    subst e
    subst hS
    refine zz_iload_n C d_Mo_check_16 rfl rfl ?_
    refine zz_aload_n C d_Mo_check_17 rfl rfl ?_
    refine zz_getV C hR (nI i) _ d_Mo_check_18 zf_Mo_92 rfl rfl hM.S ?_
    refine zz_icmp_ge (tgt := 156) C d_Mo_check_21 (by decide) (fun c_21 => ?_) (fun c_21 => ?_)
    · refine zz_iconst (v := 1) C d_Mo_check_156 (by decide) ?_
      refine zz_iret C Z d_Mo_check_157 ?_
      exact hpost μ h hsc hR
    · exact absurd (nI_le (Nat.le_refl _) (by omega)) c_21
  | succ d ih =>
    intro i μ w2 w3 hd hi hM hsc hS h hR
    have hlt : i < sz := by omega
    have u7 := (hM.2.2.1.2 i hlt).2.2.2.2.1
    unfold ckM at hS
    refine zz_iload_n C d_Mo_check_16 rfl rfl ?_
    refine zz_aload_n C d_Mo_check_17 rfl rfl ?_
    refine zz_getV C hR (nI sz) _ d_Mo_check_18 zf_Mo_92 rfl rfl hM.S ?_
    refine zz_icmp_ge (tgt := 156) C d_Mo_check_21 (by decide) (fun c_21 => ?_) (fun c_21 => ?_)
    · exact absurd c_21 (nI_ge hlt (by omega))
    · refine zz_aload_n C d_Mo_check_24 rfl rfl ?_
      refine zz_get C d_Mo_check_25 zf_Mo_64 ((hR _).trans rfl) rfl ?_
      refine zz_iload_n C d_Mo_check_28 rfl rfl ?_
      refine zz_ialdV (j := i) C hR (V (100 + 4 * i) 7) d_Mo_check_29 (fun _ _ => rfl) rfl (by omega) (by decide) u7 ?_
      refine zz_if_ne (tgt := 35) C d_Mo_check_30 (by decide) (fun c_30 => ?_) (fun c_30 => ?_)
      · rw [if_neg c_30] at hS
        refine zz_aload_n C d_Mo_check_35 rfl rfl ?_
        refine zz_get C d_Mo_check_36 zf_Mo_64 ((hR _).trans rfl) rfl ?_
        refine zz_iload_n C d_Mo_check_39 rfl rfl ?_
        refine zz_ialdV (j := i) C hR (V (100 + 4 * i) 7) d_Mo_check_40 (fun _ _ => rfl) rfl (by omega) (by decide) u7 ?_
        refine zz_iconst (v := 1) C d_Mo_check_41 (by decide) ?_
        refine zz_icmp_ne (tgt := 91) C d_Mo_check_42 (by decide) (fun c_42 => ?_) (fun c_42 => ?_)
        · rw [if_pos c_42] at hS
          refine zz_aload_n C d_Mo_check_91 rfl rfl ?_
          refine zz_iconst (v := -1) C d_Mo_check_92 (by decide) ?_
          refine zz_callVv (e := 0) C hR d_Mo_check_93 mk_Mo_154 zy_Mo_takeBounds (m_Mo_takeBounds_root h8 hM.1.1) ⟨by decide, by decide⟩ ⟨Nat.zero_le _, Nat.zero_le _⟩ rfl rfl rfl rfl (Nat.le_of_ble_eq_true rfl) (fun h hR => ?_)
          refine zz_iload_n C d_Mo_check_96 rfl rfl ?_
          refine zz_istore_n C d_Mo_check_97 rfl (by decide) rfl ?_
          have hs0 : ∀ k, k < n → tbF μ (μ 41) (μ 42) n 62 k = V 2 k ∧ tbF μ (μ 41) (μ 42) n 63 k = V 3 k := fun k hk => ⟨(cpn_lt hk).trans (hM.1.2.2.1 k (by omega)).1, (cpn_lt hk).trans (hM.1.2.2.1 k (by omega)).2.1⟩
          refine lpB_Mo_check C h8 h6 hC.tv (S := chB V 600 i (tbF μ (μ 41) (μ 42) n 62, tbF μ (μ 41) (μ 42) n 63)) (μ0 := μ) (fun m h w2 hs q1 q2 hR => ?_) 600 i _ (by omega) hlt (hM.sc tbF_sc) tbF_sc rfl h hR
          have hM := hM.sc hs
          have hsc := hsc.tr hs
          have hb : bdR n (m 62) (m 63) := by rw [q1, q2]; exact ch_bd hC hlt hs0
          have ek : (nwF V n rc 1000 (m 62, m 63, 1)).1 = okN V n rc i := by rw [q1, q2]; exact ok_eq hC hlt hs0 (fun _ _ => rfl)
          rw [← ek] at hS
          refine zz_aload_n C d_Mo_check_139 rfl rfl ?_
          refine zz_callVw (e := 2) C hR d_Mo_check_140 mk_Mo_162 zy_Mo_narrow (m_Mo_narrow hC.vR hM.1 hC.sR hM.2.1 hb) ⟨by decide, by decide⟩ ⟨Nat.zero_le _, Nat.zero_le _⟩ rfl rfl rfl rfl (Nat.le_of_ble_eq_true rfl) (fun h hR => ?_)
          refine zz_bipush (v := -2) C d_Mo_check_143 (by decide) ?_
          refine zz_icmp_ne (tgt := 150) C d_Mo_check_145 (by decide) (fun c_145 => ?_) (fun c_145 => ?_)
          · rw [if_neg c_145] at hS
            refine zz_iinc C d_Mo_check_150 rfl (nI_inc _) (by decide) rfl ?_
            refine zz_goto (tgt := 16) C d_Mo_check_153 (by decide) ?_
            exact ih (i + 1) _ _ _ (by omega) hlt (hM.sc setM_sc) (hsc.tr setM_sc) hS h hR
          · rw [if_pos c_145] at hS
            subst hS
            refine zz_iconst (v := 0) C d_Mo_check_148 (by decide) ?_
            refine zz_iret C Z d_Mo_check_149 ?_
            exact hpost _ h (hsc.tr setM_sc) hR
        · rw [if_neg (fun z => z c_42)] at hS
          refine zz_iconst (v := 0) C d_Mo_check_45 (by decide) ?_
          refine zz_istore_n C d_Mo_check_46 rfl (by decide) rfl ?_
          refine zz_iconst (v := 0) C d_Mo_check_47 (by decide) ?_
          refine zz_istore_n C d_Mo_check_48 rfl (by decide) rfl ?_
          refine lpC_Mo_check C hM h6 hR ?_ sz 0 rfl (Nat.zero_le _)
          refine zz_iload_n C d_Mo_check_81 rfl rfl ?_
          refine zz_iconst (v := 2) C d_Mo_check_82 (by decide) ?_
          refine zz_icmp_eq (tgt := 88) C d_Mo_check_83 (by decide) (fun c_83 => ?_) (fun c_83 => ?_)
          · rw [if_pos c_83] at hS
            refine zz_goto (tgt := 150) C d_Mo_check_88 (by decide) ?_
            refine zz_iinc C d_Mo_check_150 rfl (nI_inc _) (by decide) rfl ?_
            refine zz_goto (tgt := 16) C d_Mo_check_153 (by decide) ?_
            exact ih (i + 1) μ _ _ (by omega) hlt hM hsc hS h hR
          · rw [if_neg c_83] at hS
            subst hS
            refine zz_iconst (v := 0) C d_Mo_check_86 (by decide) ?_
            refine zz_iret C Z d_Mo_check_87 ?_
            exact hpost μ h hsc hR
      · rw [if_pos c_30] at hS
        subst hS
        refine zz_iconst (v := 0) C d_Mo_check_33 (by decide) ?_
        refine zz_iret C Z d_Mo_check_34 ?_
        exact hpost μ h hsc hR
set_option maxRecDepth 100000 in
set_option maxHeartbeats 4000000 in
theorem m_Mo_check (hC : CI n rc sz al c V) (hM : MM n rc sz V pv μ pa) : sMet l y_Mo_check b_Mo_check 4 (some .int) (zR 3) E [.ref (ad 40)] ad al2 μ pa (some (.int (ckF sz n rc V pv).1)) μ pa := by
  intro h hR
  refine zMet.of (L := [some (.ref (ad 40)), none, none, none]) (by decide +kernel) (Nat.le_of_ble_eq_true rfl) rfl 3 rfl fun X hl C Z => ?_
  refine zz_aload_n C d_Mo_check_0 rfl rfl ?_
  refine zz_iconst (v := 0) C d_Mo_check_1 (by decide) ?_
  refine zz_putI C hR d_Mo_check_2 zp_Mo_1 rfl rfl rfl (Nat.le_of_ble_eq_true rfl) rfl (fun h hR => ?_)
  have hR : zRep E ad al2 (th μ) pa h := hR
  have hM := hM.sc th_sc
  refine zz_aload_n C d_Mo_check_5 rfl rfl ?_
  refine zz_getV C hR (nI sz) _ d_Mo_check_6 zf_Mo_92 rfl rfl hM.S ?_
  refine zz_if_ne (tgt := 14) C d_Mo_check_9 (by decide) (fun c_9 => ?_) (fun c_9 => ?_)
  · have z0 : ¬ V 14 1 = 0 := by rw [hC.S]; exact c_9
    refine zz_iconst (v := 0) C d_Mo_check_14 (by decide) ?_
    refine zz_istore_n C d_Mo_check_15 rfl (by decide) rfl ?_
    refine lp_Mo_check C Z hC (S := ckM V sz n rc sz 0) (μ0 := μ) (fun m h hs hR => ⟨?_, rfl, m, hs, hR⟩) sz 0 (th μ) _ _ rfl (Nat.zero_le _) hM th_sc rfl h hR
    unfold ckF
    rw [if_pos z0, ho_M hC]
    show some (Value.int (ckM V sz n rc sz 0)) = some (.int (if ckM V sz n rc sz 0 = 0 then 0 else 1))
    rcases ck_01 (V := V) (sz := sz) (n := n) (rc := rc) sz 0 with q | q
    · rw [q]; rfl
    · rw [q]; rfl
  · have z0 : V 14 1 = 0 := by rw [hC.S]; exact c_9
    refine zz_iconst (v := -1) C d_Mo_check_12 (by decide) ?_
    refine zz_iret C Z d_Mo_check_13 ?_
    unfold ckF
    rw [if_neg (fun q => q z0)]
    exact ⟨rfl, rfl, th μ, th_sc, hR⟩
theorem s_check (hC : CI n rc sz al c V) (hM : MM n rc sz V pv μ pa) : OK al c V (ckF sz n rc V pv).2.1 pv (ckF sz n rc V pv).2.2 (xMet l y_Mo_check b_Mo_check 4 (zR 3) E [.ref (ad 40)] ad al μ pa (ckF sz n rc V pv).1) := by
  have hW := m_Mo_check (l := l) (E := E) (ad := ad) (al2 := al) hC hM
  have hs : ckE V (ckF sz n rc V pv).2.1 ∧ (ckF sz n rc V pv).2.2 = pv := by
    unfold ckF
    split
    · exact ⟨ck_E, rfl⟩
    · exact ⟨⟨fun _ _ _ _ _ => rfl, fun _ _ _ => rfl, fun _ _ _ _ => rfl⟩, rfl⟩
  refine ⟨fun k h1 h2 => hs.1.1 k (by omega) (by omega) (by omega) (by omega), by rw [hs.2], n, rc, sz, hC.ck hs.1, ?_⟩
  exact xMet.s hW rfl fx.rf (fun m g => by rw [hs.2]; exact (hM.sc g).ck hs.1)
end MCHECK
