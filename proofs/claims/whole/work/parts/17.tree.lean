/-! TREE: what reads -/
def ibF (rule la ea : Int32) : Int32 := if rule = 0 then 1 else if ¬ rule = 1 then 0 else if ea ≤ la then 0 else 1
def cnF (μ : Nat → Nat → Int32) (s : Int32) : Nat → Int32
  | 0 => 0
  | i + 1 => if ¬ μ (100 + 4 * i) 7 = s then cnF μ s i else cnF μ s i + Int32.ofInt 1
def loF (μ : Nat → Nat → Int32) (lim : Int32) : Nat → Int32
  | 0 => lim
  | i + 1 => if ¬ μ (100 + 4 * i) 7 = 0 then loF μ lim i else minF (loF μ lim i) (μ (100 + 4 * i) 8)
def pkS (μ : Nat → Nat → Int32) (rule : Int32) (i : Nat) : Option Nat → Option Nat
  | none => if ¬ μ (100 + 4 * i) 7 = 0 then none else some i
  | some q => if ¬ μ (100 + 4 * i) 7 = 0 then some q else if ibF rule (μ (100 + 4 * i) 8) (μ (100 + 4 * q) 8) = 0 then some q else some i
def pkF (μ : Nat → Nat → Int32) (rule : Int32) : Nat → Option Nat
  | 0 => none
  | i + 1 => pkS μ rule i (pkF μ rule i)
theorem pkF_lt {μ : Nat → Nat → Int32} {rule : Int32} : ∀ {i q : Nat}, pkF μ rule i = some q → q < i
  | 0, q, h => by simp [pkF] at h
  | i + 1, q, h => by
    have h' : pkS μ rule i (pkF μ rule i) = some q := h
    cases hp : pkF μ rule i with
    | none =>
      rw [hp] at h'
      by_cases c : μ (100 + 4 * i) 7 = 0
      · simp [pkS, c] at h'; omega
      · simp [pkS, c] at h'
    | some q' =>
      have := pkF_lt hp
      rw [hp] at h'
      by_cases c : μ (100 + 4 * i) 7 = 0
      · by_cases c2 : ibF rule (μ (100 + 4 * i) 8) (μ (100 + 4 * q') 8) = 0
        · simp [pkS, c, c2] at h'; omega
        · simp [pkS, c, c2] at h'; omega
      · simp [pkS, c] at h'; omega
def ndV (ad : Nat → Nat) : Option Nat → Value
  | none => .null
  | some j => .ref (ad (100 + 4 * j))
def meF (rule : Int32) (lo hi a t : Int32) (p : Int64) (c : Int32) : Int32 := if rule = 1 then lo - hi else if rule = 2 then prcF p t else if rule = 3 then absF c else 0
/-- the chosen NAME and its merit, the first i looked at -/
def coF (lo hi mer : Nat → Int32) : Nat → Int32 × Int32
  | 0 => (-2, 0)
  | i + 1 => if hi i ≤ lo i then coF lo hi mer i else if (coF lo hi mer i).1 = -2 then (nI i, mer i) else if mer i ≤ (coF lo hi mer i).2 then coF lo hi mer i else (nI i, mer i)
theorem tab13 {x : Int32} (e1 : ¬ x = 1) (e2 : ¬ x = 2) (e3 : ¬ x = 3) : x.toInt < 1 ∨ 3 < x.toInt := by
  have h : ∀ k : Int32, x.toInt = k.toInt → x = k := fun k q => Int32.toInt_inj.mp q
  have h1 : (1 : Int32).toInt = 1 := by decide
  have h2 : (2 : Int32).toInt = 2 := by decide
  have h3 : (3 : Int32).toInt = 3 := by decide
  have g1 : ¬ x.toInt = 1 := fun q => e1 (h 1 (by rw [h1]; exact q))
  have g2 : ¬ x.toInt = 2 := fun q => e2 (h 2 (by rw [h2]; exact q))
  have g3 : ¬ x.toInt = 3 := fun q => e3 (h 3 (by rw [h3]; exact q))
  omega
section TREE
variable {l : Launch} {E : zE} {ad : Nat → Nat} {al : Nat} {μ : Nat → Nat → Int32} {pa : Nat → Nat → Int64}
set_option maxRecDepth 100000 in
set_option maxHeartbeats 4000000 in
theorem m_Tr_isBetter {i q : Nat} {rule : Int32} (hi : i < al) (hq : q < al) : rMet l y_Tr_isBetter b_Tr_isBetter 3 (some .boolean) (zR 0) E [.ref (ad (100 + 4 * i)), .ref (ad (100 + 4 * q)), .int rule] ad al μ pa (.int (ibF rule (μ (100 + 4 * i) 8) (μ (100 + 4 * q) 8))) := by
  intro h hR
  refine zMet.of (L := [some (.ref (ad (100 + 4 * i))), some (.ref (ad (100 + 4 * q))), some (.int rule)]) (by decide +kernel) (Nat.le_of_ble_eq_true rfl) rfl 0 rfl fun X hl C Z => ?_
  refine zz_iload_n C d_Tr_isBetter_0 rfl rfl ?_
  refine zz_if_eq (tgt := 20) C d_Tr_isBetter_1 (by decide) (fun c_1 => ?_) (fun c_1 => ?_)
  · refine zz_iconst (v := 1) C d_Tr_isBetter_20 (by decide) ?_
    refine zz_goto (tgt := 25) C d_Tr_isBetter_21 (by decide) ?_
    refine zz_zret C Z d_Tr_isBetter_25 (by first | rfl | decide | assumption) ?_
    exact ⟨by simp [ibF, c_1], rfl, rfl⟩
  · refine zz_iload_n C d_Tr_isBetter_4 rfl rfl ?_
    refine zz_iconst (v := 1) C d_Tr_isBetter_5 (by decide) ?_
    refine zz_icmp_ne (tgt := 24) C d_Tr_isBetter_6 (by decide) (fun c_6 => ?_) (fun c_6 => ?_)
    · refine zz_iconst (v := 0) C d_Tr_isBetter_24 (by decide) ?_
      refine zz_zret C Z d_Tr_isBetter_25 (by first | rfl | decide | assumption) ?_
      exact ⟨by simp [ibF, c_1, c_6], rfl, rfl⟩
    · refine zz_aload_n C d_Tr_isBetter_9 rfl rfl ?_
      refine zz_get C d_Tr_isBetter_10 zf_Tr_34 ((hR _).trans (zb_nd0 E ad hi _ _)) rfl ?_
      refine zz_aload_n C d_Tr_isBetter_13 rfl rfl ?_
      refine zz_get C d_Tr_isBetter_14 zf_Tr_34 ((hR _).trans (zb_nd0 E ad hq _ _)) rfl ?_
      refine zz_icmp_ge (tgt := 24) C d_Tr_isBetter_17 (by decide) (fun c_17 => ?_) (fun c_17 => ?_)
      · refine zz_iconst (v := 0) C d_Tr_isBetter_24 (by decide) ?_
        refine zz_zret C Z d_Tr_isBetter_25 (by first | rfl | decide | assumption) ?_
        exact ⟨by simp [ibF, c_1, c_6, c_17], rfl, rfl⟩
      · refine zz_iconst (v := 1) C d_Tr_isBetter_20 (by decide) ?_
        refine zz_goto (tgt := 25) C d_Tr_isBetter_21 (by decide) ?_
        refine zz_zret C Z d_Tr_isBetter_25 (by first | rfl | decide | assumption) ?_
        exact ⟨by simp [ibF, c_1, c_6, c_17], rfl, rfl⟩
set_option maxRecDepth 100000 in
set_option maxHeartbeats 4000000 in
theorem m_Tr_at {sz : Nat} (hS : μ 14 1 = nI sz) (hsz : sz ≤ al) (hal : al ≤ 600) {j : Nat} (hj : j < sz) : rMet l y_Tr_at b_Tr_at 2 (some (.object "BranchTrees$Node")) (zR 0) E [.ref (ad 14), .int (nI j)] ad al μ pa (.ref (ad (100 + 4 * j))) := by
  intro h hR
  refine zMet.of (L := [some (.ref (ad 14)), some (.int (nI j))]) (by decide +kernel) (Nat.le_of_ble_eq_true rfl) rfl 0 rfl fun X hl C Z => ?_
  refine zz_iload_n C d_Tr_at_0 rfl rfl ?_
  refine zz_if_lt (tgt := 21) C d_Tr_at_1 (by decide) (fun c_1 => ?_) (fun c_1 => ?_)
  · exact absurd c_1 (nI_pos (by omega))
  · refine zz_iload_n C d_Tr_at_4 rfl rfl ?_
    refine zz_aload_n C d_Tr_at_5 rfl rfl ?_
    refine zz_get C d_Tr_at_6 zf_Tr_17 ((hR _).trans rfl) rfl ?_
    refine zz_icmp_ge (tgt := 21) C d_Tr_at_9 (by decide) (fun c_9 => ?_) (fun c_9 => ?_)
    · exact absurd (by rw [hS] at c_9; exact c_9) (nI_ge hj (by omega))
    · refine zz_aload_n C d_Tr_at_12 rfl rfl ?_
      refine zz_get C d_Tr_at_13 zf_Tr_11 ((hR _).trans rfl) rfl ?_
      refine zz_iload_n C d_Tr_at_16 rfl rfl ?_
      refine zz_aaldR (k := 15) (n := 600) (j := j) (q := 100 + 4 * j) C hR 3 d_Tr_at_17 (fun _ _ => rfl) rfl rfl rfl (by omega) (by decide) (if_pos (by omega)) ?_
      refine zz_goto (tgt := 22) C d_Tr_at_18 (by decide) ?_
      refine zz_aret C Z d_Tr_at_22 (Or.inr ⟨_, rfl⟩) ?_
      exact ⟨rfl, rfl, rfl⟩
set_option maxRecDepth 100000 in
set_option maxHeartbeats 4000000 in
theorem m_Tr_at_no {x : Int32} (hx : x < 0 ∨ μ 14 1 ≤ x) : rMet l y_Tr_at b_Tr_at 2 (some (.object "BranchTrees$Node")) (zR 0) E [.ref (ad 14), .int x] ad al μ pa .null := by
  intro h hR
  refine zMet.of (L := [some (.ref (ad 14)), some (.int x)]) (by decide +kernel) (Nat.le_of_ble_eq_true rfl) rfl 0 rfl fun X hl C Z => ?_
  refine zz_iload_n C d_Tr_at_0 rfl rfl ?_
  refine zz_if_lt (tgt := 21) C d_Tr_at_1 (by decide) (fun c_1 => ?_) (fun c_1 => ?_)
  · refine zz_null C d_Tr_at_21 ?_
    refine zz_aret C Z d_Tr_at_22 (Or.inl rfl) ?_
    exact ⟨rfl, rfl, rfl⟩
  · refine zz_iload_n C d_Tr_at_4 rfl rfl ?_
    refine zz_aload_n C d_Tr_at_5 rfl rfl ?_
    refine zz_get C d_Tr_at_6 zf_Tr_17 ((hR _).trans rfl) rfl ?_
    refine zz_icmp_ge (tgt := 21) C d_Tr_at_9 (by decide) (fun c_9 => ?_) (fun c_9 => ?_)
    · refine zz_null C d_Tr_at_21 ?_
      refine zz_aret C Z d_Tr_at_22 (Or.inl rfl) ?_
      exact ⟨rfl, rfl, rfl⟩
    · exact absurd hx (fun q => q.elim c_1 c_9)
set_option maxRecDepth 100000 in
set_option maxHeartbeats 4000000 in
theorem lp_Tr_countOf {X : zX} {h : zH} {post : Option Value → (Nat → Nat) → zH → Prop} (C : zc X E b_Tr_countOf 5 "BranchTrees$Tree" (zR 0)) (Z : zr X E (some .int) 0 0 post) {sz : Nat} (hS : μ 14 1 = nI sz) (hsz : sz ≤ al) (hal : al ≤ 600) {s : Int32} (hR : zRep E ad al μ pa h) (hpost : post (some (.int (cnF μ s sz))) ad h) :
    ∀ (k i : Nat) (w : Option Value), sz - i = k → i ≤ sz → zz X E 5 ad 0 0 4 [some (.ref (ad 14)), some (.int s), some (.int (cnF μ s i)), some (.int (nI i)), w] [] h := by
  intro k
  induction k with
  | zero =>
    intro i w hk hin
    have e : i = sz := by omega
    subst e
    refine zz_iload_n C d_Tr_countOf_4 rfl rfl ?_
    refine zz_aload_n C d_Tr_countOf_5 rfl rfl ?_
    refine zz_get C d_Tr_countOf_6 zf_Tr_17 ((hR _).trans rfl) rfl ?_
    refine zz_icmp_ge (tgt := 43) C d_Tr_countOf_9 (by decide) (fun c_9 => ?_) (fun c_9 => ?_)
    · refine zz_iload_n C d_Tr_countOf_43 rfl rfl ?_
      refine zz_iret C Z d_Tr_countOf_44 ?_
      exact hpost
    · exact absurd (by rw [hS]; exact nI_le (Nat.le_refl _) (by omega)) c_9
  | succ k ih =>
    intro i w hk hin
    have hlt : i < sz := by omega
    have hia : i < al := by omega
    have K := ih (i + 1) (some (.ref (ad (100 + 4 * i)))) (by omega) hlt
    refine zz_iload_n C d_Tr_countOf_4 rfl rfl ?_
    refine zz_aload_n C d_Tr_countOf_5 rfl rfl ?_
    refine zz_get C d_Tr_countOf_6 zf_Tr_17 ((hR _).trans rfl) rfl ?_
    refine zz_icmp_ge (tgt := 43) C d_Tr_countOf_9 (by decide) (fun c_9 => ?_) (fun c_9 => ?_)
    · exact absurd (by rw [hS] at c_9; exact c_9) (nI_ge hlt (by omega))
    · refine zz_aload_n C d_Tr_countOf_12 rfl rfl ?_
      refine zz_get C d_Tr_countOf_13 zf_Tr_11 ((hR _).trans rfl) rfl ?_
      refine zz_iload_n C d_Tr_countOf_16 rfl rfl ?_
      refine zz_aaldR (k := 15) (n := 600) (j := i) (q := 100 + 4 * i) C hR 3 d_Tr_countOf_17 (fun _ _ => rfl) rfl rfl rfl (by omega) (by decide) (if_pos hia) ?_
      refine zz_astore C d_Tr_countOf_18 (by decide) rfl ?_
      refine zz_aload C d_Tr_countOf_20 rfl ?_
      refine zz_ifnull C d_Tr_countOf_22 ?_
      refine zz_aload C d_Tr_countOf_25 rfl ?_
      refine zz_get C d_Tr_countOf_27 zf_Tr_27 ((hR _).trans (zb_nd0 E ad hia _ _)) rfl ?_
      refine zz_iload_n C d_Tr_countOf_30 rfl rfl ?_
      refine zz_icmp_ne (tgt := 37) C d_Tr_countOf_31 (by decide) (fun c_31 => ?_) (fun c_31 => ?_)
      · refine zz_iinc C d_Tr_countOf_37 rfl (nI_inc _) (by decide) rfl ?_
        refine zz_goto (tgt := 4) C d_Tr_countOf_40 (by decide) ?_
        simp only [cnF, c_9, c_31, if_true, if_false, not_true_eq_false, not_false_eq_true] at K
        exact K
      · refine zz_iinc C d_Tr_countOf_34 rfl rfl (by decide) rfl ?_
        refine zz_iinc C d_Tr_countOf_37 rfl (nI_inc _) (by decide) rfl ?_
        refine zz_goto (tgt := 4) C d_Tr_countOf_40 (by decide) ?_
        simp only [cnF, c_9, c_31, if_true, if_false, not_true_eq_false, not_false_eq_true] at K
        exact K
set_option maxRecDepth 100000 in
set_option maxHeartbeats 4000000 in
theorem m_Tr_countOf {sz : Nat} (hS : μ 14 1 = nI sz) (hsz : sz ≤ al) (hal : al ≤ 600) {s : Int32} : rMet l y_Tr_countOf b_Tr_countOf 5 (some .int) (zR 0) E [.ref (ad 14), .int s] ad al μ pa (.int (cnF μ s sz)) := by
  intro h hR
  refine zMet.of (L := [some (.ref (ad 14)), some (.int s), none, none, none]) (by decide +kernel) (Nat.le_of_ble_eq_true rfl) rfl 3 rfl fun X hl C Z => ?_
  refine zz_iconst (v := 0) C d_Tr_countOf_0 (by decide) ?_
  refine zz_istore_n C d_Tr_countOf_1 rfl (by decide) rfl ?_
  refine zz_iconst (v := 0) C d_Tr_countOf_2 (by decide) ?_
  refine zz_istore_n C d_Tr_countOf_3 rfl (by decide) rfl ?_
  exact lp_Tr_countOf C Z hS hsz hal hR ⟨rfl, rfl, rfl⟩ sz 0 _ rfl (Nat.zero_le _)
set_option maxRecDepth 100000 in
set_option maxHeartbeats 4000000 in
theorem lp_Tr_leastOpen {X : zX} {h : zH} {post : Option Value → (Nat → Nat) → zH → Prop} (C : zc X E b_Tr_leastOpen 5 "BranchTrees$Tree" (zR 1)) (Z : zr X E (some .int) 0 0 post) {sz : Nat} (hS : μ 14 1 = nI sz) (hsz : sz ≤ al) (hal : al ≤ 600) {s : Int32} (hR : zRep E ad al μ pa h) (hpost : post (some (.int (loF μ s sz))) ad h) :
    ∀ (k i : Nat) (w : Option Value), sz - i = k → i ≤ sz → zz X E 5 ad 0 0 4 [some (.ref (ad 14)), some (.int s), some (.int (loF μ s i)), some (.int (nI i)), w] [] h := by
  intro k
  induction k with
  | zero =>
    intro i w hk hin
    have e : i = sz := by omega
    subst e
    refine zz_iload_n C d_Tr_leastOpen_4 rfl rfl ?_
    refine zz_aload_n C d_Tr_leastOpen_5 rfl rfl ?_
    refine zz_get C d_Tr_leastOpen_6 zf_Tr_17 ((hR _).trans rfl) rfl ?_
    refine zz_icmp_ge (tgt := 49) C d_Tr_leastOpen_9 (by decide) (fun c_9 => ?_) (fun c_9 => ?_)
    · refine zz_iload_n C d_Tr_leastOpen_49 rfl rfl ?_
      refine zz_iret C Z d_Tr_leastOpen_50 ?_
      exact hpost
    · exact absurd (by rw [hS]; exact nI_le (Nat.le_refl _) (by omega)) c_9
  | succ k ih =>
    intro i w hk hin
    have hlt : i < sz := by omega
    have hia : i < al := by omega
    have K := ih (i + 1) (some (.ref (ad (100 + 4 * i)))) (by omega) hlt
    refine zz_iload_n C d_Tr_leastOpen_4 rfl rfl ?_
    refine zz_aload_n C d_Tr_leastOpen_5 rfl rfl ?_
    refine zz_get C d_Tr_leastOpen_6 zf_Tr_17 ((hR _).trans rfl) rfl ?_
    refine zz_icmp_ge (tgt := 49) C d_Tr_leastOpen_9 (by decide) (fun c_9 => ?_) (fun c_9 => ?_)
    · exact absurd (by rw [hS] at c_9; exact c_9) (nI_ge hlt (by omega))
    · refine zz_aload_n C d_Tr_leastOpen_12 rfl rfl ?_
      refine zz_get C d_Tr_leastOpen_13 zf_Tr_11 ((hR _).trans rfl) rfl ?_
      refine zz_iload_n C d_Tr_leastOpen_16 rfl rfl ?_
      refine zz_aaldR (k := 15) (n := 600) (j := i) (q := 100 + 4 * i) C hR 3 d_Tr_leastOpen_17 (fun _ _ => rfl) rfl rfl rfl (by omega) (by decide) (if_pos hia) ?_
      refine zz_astore C d_Tr_leastOpen_18 (by decide) rfl ?_
      refine zz_aload C d_Tr_leastOpen_20 rfl ?_
      refine zz_ifnull C d_Tr_leastOpen_22 ?_
      refine zz_aload C d_Tr_leastOpen_25 rfl ?_
      refine zz_get C d_Tr_leastOpen_27 zf_Tr_27 ((hR _).trans (zb_nd0 E ad hia _ _)) rfl ?_
      refine zz_if_ne (tgt := 43) C d_Tr_leastOpen_30 (by decide) (fun c_30 => ?_) (fun c_30 => ?_)
      · refine zz_iinc C d_Tr_leastOpen_43 rfl (nI_inc _) (by decide) rfl ?_
        refine zz_goto (tgt := 4) C d_Tr_leastOpen_46 (by decide) ?_
        simp only [loF, c_9, c_30, if_true, if_false, not_true_eq_false, not_false_eq_true] at K
        exact K
      · refine zz_iload_n C d_Tr_leastOpen_33 rfl rfl ?_
        refine zz_aload C d_Tr_leastOpen_34 rfl ?_
        refine zz_get C d_Tr_leastOpen_36 zf_Tr_34 ((hR _).trans (zb_nd0 E ad hia _ _)) rfl ?_
        refine zz_callSr (e := 0) C hR d_Tr_leastOpen_39 mk_Tr_37 zy_Ma_min m_Ma_min ⟨by decide, by decide⟩ ⟨Nat.zero_le _, Nat.zero_le _⟩ rfl rfl (Nat.le_of_ble_eq_true rfl) ?_
        refine zz_istore_n C d_Tr_leastOpen_42 rfl (by decide) rfl ?_
        refine zz_iinc C d_Tr_leastOpen_43 rfl (nI_inc _) (by decide) rfl ?_
        refine zz_goto (tgt := 4) C d_Tr_leastOpen_46 (by decide) ?_
        simp only [loF, c_9, c_30, if_true, if_false, not_true_eq_false, not_false_eq_true] at K
        exact K
set_option maxRecDepth 100000 in
set_option maxHeartbeats 4000000 in
theorem m_Tr_leastOpen {sz : Nat} (hS : μ 14 1 = nI sz) (hsz : sz ≤ al) (hal : al ≤ 600) {s : Int32} : rMet l y_Tr_leastOpen b_Tr_leastOpen 5 (some .int) (zR 1) E [.ref (ad 14), .int s] ad al μ pa (.int (loF μ s sz)) := by
  intro h hR
  refine zMet.of (L := [some (.ref (ad 14)), some (.int s), none, none, none]) (by decide +kernel) (Nat.le_of_ble_eq_true rfl) rfl 3 rfl fun X hl C Z => ?_
  refine zz_iload_n C d_Tr_leastOpen_0 rfl rfl ?_
  refine zz_istore_n C d_Tr_leastOpen_1 rfl (by decide) rfl ?_
  refine zz_iconst (v := 0) C d_Tr_leastOpen_2 (by decide) ?_
  refine zz_istore_n C d_Tr_leastOpen_3 rfl (by decide) rfl ?_
  exact lp_Tr_leastOpen C Z hS hsz hal hR ⟨rfl, rfl, rfl⟩ sz 0 _ rfl (Nat.zero_le _)
set_option maxRecDepth 100000 in
set_option maxHeartbeats 4000000 in
theorem lp_Tr_pick {X : zX} {h : zH} {post : Option Value → (Nat → Nat) → zH → Prop} (C : zc X E b_Tr_pick 5 "BranchTrees$Tree" (zR 1)) (Z : zr X E (some (.object "BranchTrees$Node")) 0 0 post) {sz : Nat} (hS : μ 14 1 = nI sz) (hsz : sz ≤ al) (hal : al ≤ 600) {rule : Int32} (hR : zRep E ad al μ pa h) (hpost : post (some (ndV ad (pkF μ rule sz))) ad h) :
    ∀ (k i : Nat) (w : Option Value), sz - i = k → i ≤ sz → zz X E 5 ad 0 0 4 [some (.ref (ad 14)), some (.int rule), some (ndV ad (pkF μ rule i)), some (.int (nI i)), w] [] h := by
  intro k
  induction k with
  | zero =>
    intro i w hk hin
    have e : i = sz := by omega
    subst e
    cases hp : pkF μ rule i with
    | none =>
      rw [hp] at hpost
      refine zz_iload_n C d_Tr_pick_4 rfl rfl ?_
      refine zz_aload_n C d_Tr_pick_5 rfl rfl ?_
      refine zz_get C d_Tr_pick_6 zf_Tr_17 ((hR _).trans rfl) rfl ?_
      refine zz_icmp_ge (tgt := 56) C d_Tr_pick_9 (by decide) (fun c_9 => ?_) (fun c_9 => ?_)
      · refine zz_aload_nN C d_Tr_pick_56 rfl rfl ?_
        refine zz_aret C Z d_Tr_pick_57 (Or.inl rfl) ?_
        exact hpost
      · exact absurd (by rw [hS]; exact nI_le (Nat.le_refl _) (by omega)) c_9
    | some q =>
      rw [hp] at hpost
      refine zz_iload_n C d_Tr_pick_4 rfl rfl ?_
      refine zz_aload_n C d_Tr_pick_5 rfl rfl ?_
      refine zz_get C d_Tr_pick_6 zf_Tr_17 ((hR _).trans rfl) rfl ?_
      refine zz_icmp_ge (tgt := 56) C d_Tr_pick_9 (by decide) (fun c_9 => ?_) (fun c_9 => ?_)
      · refine zz_aload_n C d_Tr_pick_56 rfl rfl ?_
        refine zz_aret C Z d_Tr_pick_57 (Or.inr ⟨_, rfl⟩) ?_
        exact hpost
      · exact absurd (by rw [hS]; exact nI_le (Nat.le_refl _) (by omega)) c_9
  | succ k ih =>
    intro i w hk hin
    have hlt : i < sz := by omega
    have hia : i < al := by omega
    have K := ih (i + 1) (some (.ref (ad (100 + 4 * i)))) (by omega) hlt
    simp only [pkF] at K
    cases hp : pkF μ rule i with
    | none =>
      rw [hp] at K
      refine zz_iload_n C d_Tr_pick_4 rfl rfl ?_
      refine zz_aload_n C d_Tr_pick_5 rfl rfl ?_
      refine zz_get C d_Tr_pick_6 zf_Tr_17 ((hR _).trans rfl) rfl ?_
      refine zz_icmp_ge (tgt := 56) C d_Tr_pick_9 (by decide) (fun c_9 => ?_) (fun c_9 => ?_)
      · exact absurd (by rw [hS] at c_9; exact c_9) (nI_ge hlt (by omega))
      · refine zz_aload_n C d_Tr_pick_12 rfl rfl ?_
        refine zz_get C d_Tr_pick_13 zf_Tr_11 ((hR _).trans rfl) rfl ?_
        refine zz_iload_n C d_Tr_pick_16 rfl rfl ?_
        refine zz_aaldR (k := 15) (n := 600) (j := i) (q := 100 + 4 * i) C hR 3 d_Tr_pick_17 (fun _ _ => rfl) rfl rfl rfl (by omega) (by decide) (if_pos hia) ?_
        refine zz_astore C d_Tr_pick_18 (by decide) rfl ?_
        refine zz_aload C d_Tr_pick_20 rfl ?_
        refine zz_ifnull C d_Tr_pick_22 ?_
        refine zz_aload C d_Tr_pick_25 rfl ?_
        refine zz_get C d_Tr_pick_27 zf_Tr_27 ((hR _).trans (zb_nd0 E ad hia _ _)) rfl ?_
        refine zz_if_ne (tgt := 50) C d_Tr_pick_30 (by decide) (fun c_30 => ?_) (fun c_30 => ?_)
        · refine zz_iinc C d_Tr_pick_50 rfl (nI_inc _) (by decide) rfl ?_
          refine zz_goto (tgt := 4) C d_Tr_pick_53 (by decide) ?_
          simp only [pkS, c_9, c_30, if_true, if_false, not_true_eq_false, not_false_eq_true] at K
          exact K
        · refine zz_aload_nN C d_Tr_pick_33 rfl rfl ?_
          refine zz_ifnullN (tgt := 47) C d_Tr_pick_34 (by decide) ?_
          refine zz_aload C d_Tr_pick_47 rfl ?_
          refine zz_astore_n C d_Tr_pick_49 rfl (by decide) rfl ?_
          refine zz_iinc C d_Tr_pick_50 rfl (nI_inc _) (by decide) rfl ?_
          refine zz_goto (tgt := 4) C d_Tr_pick_53 (by decide) ?_
          simp only [pkS, c_9, c_30, if_true, if_false, not_true_eq_false, not_false_eq_true] at K
          exact K
    | some q =>
      have hqa : q < al := Nat.lt_trans (pkF_lt hp) hia
      rw [hp] at K
      refine zz_iload_n C d_Tr_pick_4 rfl rfl ?_
      refine zz_aload_n C d_Tr_pick_5 rfl rfl ?_
      refine zz_get C d_Tr_pick_6 zf_Tr_17 ((hR _).trans rfl) rfl ?_
      refine zz_icmp_ge (tgt := 56) C d_Tr_pick_9 (by decide) (fun c_9 => ?_) (fun c_9 => ?_)
      · exact absurd (by rw [hS] at c_9; exact c_9) (nI_ge hlt (by omega))
      · refine zz_aload_n C d_Tr_pick_12 rfl rfl ?_
        refine zz_get C d_Tr_pick_13 zf_Tr_11 ((hR _).trans rfl) rfl ?_
        refine zz_iload_n C d_Tr_pick_16 rfl rfl ?_
        refine zz_aaldR (k := 15) (n := 600) (j := i) (q := 100 + 4 * i) C hR 3 d_Tr_pick_17 (fun _ _ => rfl) rfl rfl rfl (by omega) (by decide) (if_pos hia) ?_
        refine zz_astore C d_Tr_pick_18 (by decide) rfl ?_
        refine zz_aload C d_Tr_pick_20 rfl ?_
        refine zz_ifnull C d_Tr_pick_22 ?_
        refine zz_aload C d_Tr_pick_25 rfl ?_
        refine zz_get C d_Tr_pick_27 zf_Tr_27 ((hR _).trans (zb_nd0 E ad hia _ _)) rfl ?_
        refine zz_if_ne (tgt := 50) C d_Tr_pick_30 (by decide) (fun c_30 => ?_) (fun c_30 => ?_)
        · refine zz_iinc C d_Tr_pick_50 rfl (nI_inc _) (by decide) rfl ?_
          refine zz_goto (tgt := 4) C d_Tr_pick_53 (by decide) ?_
          simp only [pkS, c_9, c_30, if_true, if_false, not_true_eq_false, not_false_eq_true] at K
          exact K
        · refine zz_aload_n C d_Tr_pick_33 rfl rfl ?_
          refine zz_ifnull C d_Tr_pick_34 ?_
          refine zz_aload C d_Tr_pick_37 rfl ?_
          refine zz_aload_n C d_Tr_pick_39 rfl rfl ?_
          refine zz_iload_n C d_Tr_pick_40 rfl rfl ?_
          refine zz_callSr (e := 0) C hR d_Tr_pick_41 mk_Tr_30 zy_Tr_isBetter (m_Tr_isBetter hia hqa) ⟨by decide, by decide⟩ ⟨Nat.zero_le _, Nat.zero_le _⟩ rfl rfl (Nat.le_of_ble_eq_true rfl) ?_
          refine zz_if_eq (tgt := 50) C d_Tr_pick_44 (by decide) (fun c_44 => ?_) (fun c_44 => ?_)
          · refine zz_iinc C d_Tr_pick_50 rfl (nI_inc _) (by decide) rfl ?_
            refine zz_goto (tgt := 4) C d_Tr_pick_53 (by decide) ?_
            simp only [pkS, c_9, c_30, c_44, if_true, if_false, not_true_eq_false, not_false_eq_true] at K
            exact K
          · refine zz_aload C d_Tr_pick_47 rfl ?_
            refine zz_astore_n C d_Tr_pick_49 rfl (by decide) rfl ?_
            refine zz_iinc C d_Tr_pick_50 rfl (nI_inc _) (by decide) rfl ?_
            refine zz_goto (tgt := 4) C d_Tr_pick_53 (by decide) ?_
            simp only [pkS, c_9, c_30, c_44, if_true, if_false, not_true_eq_false, not_false_eq_true] at K
            exact K
set_option maxRecDepth 100000 in
set_option maxHeartbeats 4000000 in
theorem m_Tr_pick {sz : Nat} (hS : μ 14 1 = nI sz) (hsz : sz ≤ al) (hal : al ≤ 600) {rule : Int32} : rMet l y_Tr_pick b_Tr_pick 5 (some (.object "BranchTrees$Node")) (zR 1) E [.ref (ad 14), .int rule] ad al μ pa (ndV ad (pkF μ rule sz)) := by
  intro h hR
  refine zMet.of (L := [some (.ref (ad 14)), some (.int rule), none, none, none]) (by decide +kernel) (Nat.le_of_ble_eq_true rfl) rfl 3 rfl fun X hl C Z => ?_
  refine zz_null C d_Tr_pick_0 ?_
  refine zz_astore_nN C d_Tr_pick_1 rfl (by decide) rfl ?_
  refine zz_iconst (v := 0) C d_Tr_pick_2 (by decide) ?_
  refine zz_istore_n C d_Tr_pick_3 rfl (by decide) rfl ?_
  exact lp_Tr_pick C Z hS hsz hal hR ⟨rfl, rfl, rfl⟩ sz 0 _ rfl (Nat.zero_le _)
set_option maxRecDepth 100000 in
set_option maxHeartbeats 4000000 in
theorem m_Se_meritOf {kb kl kh : Nat} (hB : isB E ad al kb kl kh) (hL : isA E ad al kl 8) (hH : isA E ad al kh 8) {j : Nat} (hj : j < 8) : rMet l y_Se_meritOf b_Se_meritOf 3 (some .int) (zR 1) E [.ref (ad 17), .ref (ad kb), .int (nI j)] ad al μ pa (.int (meF (μ 22 1) (μ kl j) (μ kh j) 0 (μ 13 j) (pa 12 j) (μ 4 j))) := by
  intro h hR
  refine zMet.of (L := [some (.ref (ad 17)), some (.ref (ad kb)), some (.int (nI j))]) (by decide +kernel) (Nat.le_of_ble_eq_true rfl) rfl 0 rfl fun X hl C Z => ?_
  refine zz_aload_n C d_Se_meritOf_0 rfl rfl ?_
  refine zz_get C d_Se_meritOf_1 zf_Se_31 ((hR _).trans rfl) rfl ?_
  refine zz_iconst (v := 1) C d_Se_meritOf_4 (by decide) ?_
  refine zz_ialdR (j := 1) C hR d_Se_meritOf_5 (fun _ _ => rfl) rfl (by decide) (by decide) ?_
  generalize hrl : μ 22 1 = rl
  by_cases e1 : rl = 1
  · subst e1
    refine zz_tableIn (tgt := 32) C d_Se_meritOf_6 (by decide) (by decide) (off := 26) rfl (by decide) ?_
    refine zz_aload_n C d_Se_meritOf_32 rfl rfl ?_
    refine zz_get C d_Se_meritOf_33 zf_Se_77 ((hR _).trans (hB _ _)) rfl ?_
    refine zz_iload_n C d_Se_meritOf_36 rfl rfl ?_
    refine zz_ialdR (j := j) C hR d_Se_meritOf_37 hL rfl hj (by decide) ?_
    refine zz_aload_n C d_Se_meritOf_38 rfl rfl ?_
    refine zz_get C d_Se_meritOf_39 zf_Se_102 ((hR _).trans (hB _ _)) rfl ?_
    refine zz_iload_n C d_Se_meritOf_42 rfl rfl ?_
    refine zz_ialdR (j := j) C hR d_Se_meritOf_43 hH rfl hj (by decide) ?_
    refine zz_isub C d_Se_meritOf_44 ?_
    refine zz_iret C Z d_Se_meritOf_45 ?_
    exact ⟨by rw [hrl]; simp [meF], rfl, rfl⟩
  by_cases e2 : rl = 2
  · subst e2
    refine zz_tableIn (tgt := 46) C d_Se_meritOf_6 (by decide) (by decide) (off := 40) rfl (by decide) ?_
    refine zz_aload_n C d_Se_meritOf_46 rfl rfl ?_
    refine zz_get C d_Se_meritOf_47 zf_Se_19 ((hR _).trans rfl) rfl ?_
    refine zz_iload_n C d_Se_meritOf_50 rfl rfl ?_
    refine zz_callVr (e := 0) C hR d_Se_meritOf_51 mk_Se_109 zy_Pr_priceOf (m_Pr_priceOf hj) ⟨by decide, by decide⟩ ⟨Nat.zero_le _, Nat.zero_le _⟩ rfl rfl rfl rfl (Nat.le_of_ble_eq_true rfl) ?_
    refine zz_iret C Z d_Se_meritOf_54 ?_
    exact ⟨by rw [hrl]; simp [meF], rfl, rfl⟩
  by_cases e3 : rl = 3
  · subst e3
    refine zz_tableIn (tgt := 55) C d_Se_meritOf_6 (by decide) (by decide) (off := 49) rfl (by decide) ?_
    refine zz_aload_n C d_Se_meritOf_55 rfl rfl ?_
    refine zz_get C d_Se_meritOf_56 zf_Se_9 ((hR _).trans rfl) rfl ?_
    refine zz_get C d_Se_meritOf_59 zf_Se_115 ((hR _).trans rfl) rfl ?_
    refine zz_iload_n C d_Se_meritOf_62 rfl rfl ?_
    refine zz_ialdR (j := j) C hR d_Se_meritOf_63 (fun _ _ => rfl) rfl hj (by decide) ?_
    refine zz_callSr (e := 0) C hR d_Se_meritOf_64 mk_Se_118 zy_Ma_abs m_Ma_abs ⟨by decide, by decide⟩ ⟨Nat.zero_le _, Nat.zero_le _⟩ rfl rfl (Nat.le_of_ble_eq_true rfl) ?_
    refine zz_iret C Z d_Se_meritOf_67 ?_
    exact ⟨by rw [hrl]; simp [meF], rfl, rfl⟩
  refine zz_tableOut (tgt := 68) C d_Se_meritOf_6 (tab13 e1 e2 e3) (by decide) ?_
  refine zz_iconst (v := 0) C d_Se_meritOf_68 (by decide) ?_
  refine zz_iret C Z d_Se_meritOf_69 ?_
  exact ⟨by simp [meF, hrl, e1, e2, e3], rfl, rfl⟩
set_option maxRecDepth 100000 in
set_option maxHeartbeats 4000000 in
theorem lp_Se_choose {X : zX} {h : zH} {post : Option Value → (Nat → Nat) → zH → Prop} (C : zc X E b_Se_choose 6 "BranchTrees$Search" (zR 2)) (Z : zr X E (some .int) 0 0 post) {kb kl kh : Nat} (hB : isB E ad al kb kl kh) (hL : isA E ad al kl 8) (hH : isA E ad al kh 8) {n : Nat} (hn : n ≤ 8) (hN : μ 1 7 = nI n) (hR : zRep E ad al μ pa h) (hpost : post (some (.int (coF (μ kl) (μ kh) (fun j => meF (μ 22 1) (μ kl j) (μ kh j) 0 (μ 13 j) (pa 12 j) (μ 4 j)) n).1)) ad h) :
    ∀ (k i : Nat) (w : Option Value), n - i = k → i ≤ n → zz X E 6 ad 0 0 8 [some (.ref (ad 17)), some (.ref (ad kb)), some (.int (coF (μ kl) (μ kh) (fun j => meF (μ 22 1) (μ kl j) (μ kh j) 0 (μ 13 j) (pa 12 j) (μ 4 j)) i).1), some (.int (coF (μ kl) (μ kh) (fun j => meF (μ 22 1) (μ kl j) (μ kh j) 0 (μ 13 j) (pa 12 j) (μ 4 j)) i).2), some (.int (nI i)), w] [] h := by
  intro k
  induction k with
  | zero =>
    intro i w hk hin
    have e : i = n := by omega
    subst e
    refine zz_iload C d_Se_choose_8 rfl ?_
    refine zz_aload_n C d_Se_choose_10 rfl rfl ?_
    refine zz_get C d_Se_choose_11 zf_Se_9 ((hR _).trans rfl) rfl ?_
    refine zz_get C d_Se_choose_14 zf_Se_97 ((hR _).trans rfl) rfl ?_
    refine zz_icmp_ge (tgt := 70) C d_Se_choose_17 (by decide) (fun c_17 => ?_) (fun c_17 => ?_)
    · refine zz_iload_n C d_Se_choose_70 rfl rfl ?_
      refine zz_iret C Z d_Se_choose_71 ?_
      exact hpost
    · exact absurd (by rw [hN]; exact nI_le (Nat.le_refl _) (by omega)) c_17
  | succ k ih =>
    intro i w hk hin
    have hlt : i < n := by omega
    have K := fun w => ih (i + 1) w (by omega) hlt
    simp only [coF] at K
    refine zz_iload C d_Se_choose_8 rfl ?_
    refine zz_aload_n C d_Se_choose_10 rfl rfl ?_
    refine zz_get C d_Se_choose_11 zf_Se_9 ((hR _).trans rfl) rfl ?_
    refine zz_get C d_Se_choose_14 zf_Se_97 ((hR _).trans rfl) rfl ?_
    refine zz_icmp_ge (tgt := 70) C d_Se_choose_17 (by decide) (fun c_17 => ?_) (fun c_17 => ?_)
    · exact absurd (by rw [hN] at c_17; exact c_17) (nI_ge hlt (by omega))
    · refine zz_aload_n C d_Se_choose_20 rfl rfl ?_
      refine zz_get C d_Se_choose_21 zf_Se_77 ((hR _).trans (hB _ _)) rfl ?_
      refine zz_iload C d_Se_choose_24 rfl ?_
      refine zz_ialdR (j := i) C hR d_Se_choose_26 hL rfl (by omega) (by decide) ?_
      refine zz_aload_n C d_Se_choose_27 rfl rfl ?_
      refine zz_get C d_Se_choose_28 zf_Se_102 ((hR _).trans (hB _ _)) rfl ?_
      refine zz_iload C d_Se_choose_31 rfl ?_
      refine zz_ialdR (j := i) C hR d_Se_choose_33 hH rfl (by omega) (by decide) ?_
      refine zz_icmp_ge (tgt := 64) C d_Se_choose_34 (by decide) (fun c_34 => ?_) (fun c_34 => ?_)
      · refine zz_iinc C d_Se_choose_64 rfl (nI_inc _) (by decide) rfl ?_
        refine zz_goto (tgt := 8) C d_Se_choose_67 (by decide) ?_
        simp only [c_17, c_34, if_true, if_false] at K
        exact K _
      · refine zz_aload_n C d_Se_choose_37 rfl rfl ?_
        refine zz_aload_n C d_Se_choose_38 rfl rfl ?_
        refine zz_iload C d_Se_choose_39 rfl ?_
        refine zz_callVr (e := 1) C hR d_Se_choose_41 mk_Se_105 zy_Se_meritOf (m_Se_meritOf hB hL hH (by omega)) ⟨by decide, by decide⟩ ⟨Nat.zero_le _, Nat.zero_le _⟩ rfl rfl rfl rfl (Nat.le_of_ble_eq_true rfl) ?_
        refine zz_istore C d_Se_choose_44 (by decide) rfl ?_
        refine zz_iload_n C d_Se_choose_46 rfl rfl ?_
        refine zz_bipush (v := -2) C d_Se_choose_47 (by decide) ?_
        refine zz_icmp_eq (tgt := 58) C d_Se_choose_49 (by decide) (fun c_49 => ?_) (fun c_49 => ?_)
        · refine zz_iload C d_Se_choose_58 rfl ?_
          refine zz_istore_n C d_Se_choose_60 rfl (by decide) rfl ?_
          refine zz_iload C d_Se_choose_61 rfl ?_
          refine zz_istore_n C d_Se_choose_63 rfl (by decide) rfl ?_
          refine zz_iinc C d_Se_choose_64 rfl (nI_inc _) (by decide) rfl ?_
          refine zz_goto (tgt := 8) C d_Se_choose_67 (by decide) ?_
          simp only [c_17, c_34, c_49, if_true, if_false] at K
          exact K _
        · refine zz_iload C d_Se_choose_52 rfl ?_
          refine zz_iload_n C d_Se_choose_54 rfl rfl ?_
          refine zz_icmp_le (tgt := 64) C d_Se_choose_55 (by decide) (fun c_55 => ?_) (fun c_55 => ?_)
          · refine zz_iinc C d_Se_choose_64 rfl (nI_inc _) (by decide) rfl ?_
            refine zz_goto (tgt := 8) C d_Se_choose_67 (by decide) ?_
            simp only [c_17, c_34, c_49, c_55, if_true, if_false] at K
            exact K _
          · refine zz_iload C d_Se_choose_58 rfl ?_
            refine zz_istore_n C d_Se_choose_60 rfl (by decide) rfl ?_
            refine zz_iload C d_Se_choose_61 rfl ?_
            refine zz_istore_n C d_Se_choose_63 rfl (by decide) rfl ?_
            refine zz_iinc C d_Se_choose_64 rfl (nI_inc _) (by decide) rfl ?_
            refine zz_goto (tgt := 8) C d_Se_choose_67 (by decide) ?_
            simp only [c_17, c_34, c_49, c_55, if_true, if_false] at K
            exact K _
set_option maxRecDepth 100000 in
set_option maxHeartbeats 4000000 in
theorem m_Se_choose {kb kl kh : Nat} (hB : isB E ad al kb kl kh) (hL : isA E ad al kl 8) (hH : isA E ad al kh 8) {n : Nat} (hn : n ≤ 8) (hN : μ 1 7 = nI n) : rMet l y_Se_choose b_Se_choose 6 (some .int) (zR 2) E [.ref (ad 17), .ref (ad kb)] ad al μ pa (.int (coF (μ kl) (μ kh) (fun j => meF (μ 22 1) (μ kl j) (μ kh j) 0 (μ 13 j) (pa 12 j) (μ 4 j)) n).1) := by
  intro h hR
  refine zMet.of (L := [some (.ref (ad 17)), some (.ref (ad kb)), none, none, none, none]) (by decide +kernel) (Nat.le_of_ble_eq_true rfl) rfl 4 rfl fun X hl C Z => ?_
  refine zz_bipush (v := -2) C d_Se_choose_0 (by decide) ?_
  refine zz_istore_n C d_Se_choose_2 rfl (by decide) rfl ?_
  refine zz_iconst (v := 0) C d_Se_choose_3 (by decide) ?_
  refine zz_istore_n C d_Se_choose_4 rfl (by decide) rfl ?_
  refine zz_iconst (v := 0) C d_Se_choose_5 (by decide) ?_
  refine zz_istore C d_Se_choose_6 (by decide) rfl ?_
  exact lp_Se_choose C Z hB hL hH hn hN hR ⟨rfl, rfl, rfl⟩ n 0 _ rfl (Nat.zero_le _)
end TREE
