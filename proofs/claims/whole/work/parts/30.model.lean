/-! THE MODEL: leaves -/
theorem zMet.ofG {l : Launch} {y : MethodName} {rm : Room} {E : zE} {av : List Value} {ad : Nat → Nat} {h : zH} {post : Option Value → (Nat → Nat) → zH → Prop} {cc : ByteArray} {nL : Nat} {ret : Option FieldType} {L : List (Option Value)}
    (hy : plainFor y = true) (hn : (lg_sl av).length ≤ nL) (hL : ∀ (j : Nat) (w : Value), L[j]? = some (some w) → (j, w) ∈ lv_args 0 av)
    (body : ∀ X : zX, X.2.1 = l → zc X E cc nL y.cls rm → zr X E ret rm.cells rm.slots post → zz X E nL ad 0 0 0 L [] h) : zMet l y cc nL ret rm E av ad h post := by
  intro sz
  refine zOfW (cc := cc) (maxL := nL) (ret := ret) hy rfl ?_
  intro p e s m args below meth c s₁ B hml hv
  obtain ⟨rfl, hsz, hP, hK, hD⟩ := hv
  subst hsz
  have hts0 := atoms_spec (ws := Cond.code y cc nL ret :: zt) B.pre
  have hts : ∀ w ∈ zt, w.before av.toArray s = true := fun w hw => hts0 w (List.mem_cons_of_mem _ hw)
  have hl := lv_entry av (n := nL) hn
  rw [lg_entry_eq]
  have K := body (p, l, e, (headSpec (Cond.code y cc nL ret :: zt) rm).room, s, m, av.toArray, below, meth, c, MQ below (zQc E (va_A (zw ad h) s.heap.size) post) av.toArray s rm.cells rm.slots (va_A (zw ad h) s.heap.size), va_A (zw ad h) s.heap.size) rfl
    ⟨⟨B.exec, B.bytes, hml, findClass_of_methodNamed B.named, hts⟩, hK, fun q hq => Or.inr hq, rfl⟩ ⟨B.returns, B.notSynchronized, rfl⟩
  exact K s.heap [] _ hP hD.self va_S.rf (zL.of hl hL)
def inF (x y z : Int32) : Int32 := if x < y then 0 else if z < x then 0 else 1
theorem lgc_lt {x y : Int32} : lg_cmp x.toInt64 y.toInt64 < 0 ↔ x < y := by
  have h : x.toInt64 < y.toInt64 ↔ x < y := by rw [Int64.lt_iff_toInt_lt, Int32.toInt_toInt64, Int32.toInt_toInt64, Int32.lt_iff_toInt_lt]
  have h2 : y.toInt64 < x.toInt64 ↔ y < x := by rw [Int64.lt_iff_toInt_lt, Int32.toInt_toInt64, Int32.toInt_toInt64, Int32.lt_iff_toInt_lt]
  unfold lg_cmp
  by_cases c1 : y.toInt64 < x.toInt64
  · rw [if_pos c1]
    have : ¬ x < y := by
      have := h2.mp c1
      rw [Int32.lt_iff_toInt_lt] at this ⊢; omega
    constructor
    · intro q; exact absurd q (by decide)
    · intro q; exact absurd q this
  · rw [if_neg c1]
    by_cases c2 : x.toInt64 = y.toInt64
    · rw [if_pos c2]
      have : ¬ x < y := fun q => by
        have := h.mpr q
        rw [c2, Int64.lt_iff_toInt_lt] at this; omega
      constructor
      · intro q; exact absurd q (by decide)
      · intro q; exact absurd q this
    · rw [if_neg c2]
      have : x < y := by
        rw [Int32.lt_iff_toInt_lt]
        have a1 : ¬ y.toInt < x.toInt := fun q => c1 (h2.mpr (Int32.lt_iff_toInt_lt.mpr q))
        have a2 : ¬ x.toInt = y.toInt := fun q => c2 (by rw [Int32.toInt_inj.mp q])
        omega
      constructor
      · intro _; exact this
      · intro _; decide
theorem lgc_gt {x y : Int32} : 0 < lg_cmp x.toInt64 y.toInt64 ↔ y < x := by
  have h2 : y.toInt64 < x.toInt64 ↔ y < x := by rw [Int64.lt_iff_toInt_lt, Int32.toInt_toInt64, Int32.toInt_toInt64, Int32.lt_iff_toInt_lt]
  unfold lg_cmp
  by_cases c1 : y.toInt64 < x.toInt64
  · rw [if_pos c1]
    exact ⟨fun _ => h2.mp c1, fun _ => by decide⟩
  · rw [if_neg c1]
    have : ¬ y < x := fun q => c1 (h2.mpr q)
    by_cases c2 : x.toInt64 = y.toInt64
    · rw [if_pos c2]; exact ⟨fun q => absurd q (by decide), fun q => absurd q this⟩
    · rw [if_neg c2]; exact ⟨fun q => absurd q (by decide), fun q => absurd q this⟩
theorem ix8 (r k : Nat) : (8 : Int32) * nI r + nI k = nI (8 * r + k) := by
  rw [show (8 : Int32) = nI 8 from rfl, pk_mul, nI_add]
theorem inF_has {x : Int32} {n : Nat} (hn : n < 2 ^ 30) : inF x 0 (nI n - 1) = hasN x (nI n) := by
  unfold inF hasN
  by_cases h : x < 0
  · rw [if_pos h, if_pos h]
  · rw [if_neg h, if_neg h]
    obtain ⟨j, hj, rfl⟩ := nI_of h
    have e : nI n - 1 < nI j ↔ nI n ≤ nI j := by
      rw [nI_leI (by omega) hj]
      rcases n with _ | m
      · constructor
        · intro _; omega
        · intro _
          rw [Int32.lt_iff_toInt_lt, nI_toInt hj]
          have : (nI 0 - 1).toInt = -1 := by decide
          omega
      · rw [nI_pred, nI_ltI (by omega) hj]; omega
    by_cases c : nI n ≤ nI j
    · rw [if_pos c, if_pos (e.mpr c)]
    · rw [if_neg c, if_neg (fun q => c (e.mp q))]
theorem inF_W {x z : Int32} : inF x (-z) z = inW x z := rfl
/-- the model's scratch: low, high, thrown, changed -/
def sc (μ m : Nat → Nat → Int32) : Prop := (∀ k, k ≠ 40 → k ≠ 62 → k ≠ 63 → m k = μ k) ∧ ∀ i, i ≠ 0 → i ≠ 30 → m 40 i = μ 40 i
theorem sc.rf {μ : Nat → Nat → Int32} : sc μ μ := ⟨fun _ _ _ _ => rfl, fun _ _ _ => rfl⟩
theorem sc.tr {a b c : Nat → Nat → Int32} (h : sc a b) (g : sc b c) : sc a c := ⟨fun k x y z => (g.1 k x y z).trans (h.1 k x y z), fun i x y => (g.2 i x y).trans (h.2 i x y)⟩
/-- a contract up to the scratch -/
def sMet (l : Launch) (y : MethodName) (b : ByteArray) (nL : Nat) (ret : Option FieldType) (rm : Room) (E : zE) (av : List Value) (ad : Nat → Nat) (al : Nat) (μ : Nat → Nat → Int32) (pa : Nat → Nat → Int64) (r : Option Value) (μ' : Nat → Nat → Int32) (pa' : Nat → Nat → Int64) : Prop :=
  ∀ h : zH, zRep E ad al μ pa h → zMet l y b nL ret rm E av ad h (fun r' ad' h' => r' = r ∧ ad' = ad ∧ ∃ m, sc μ' m ∧ zRep E ad al m pa' h')
def foF (μ : Nat → Nat → Int32) (r k : Nat) (t : Int32) : Int32 := if t = 0 then (if r = 16 then μ 45 k else μ 47 (8 * r + k)) else -(if r = 16 then μ 45 k else μ 47 (8 * r + k))
def leF (f lo hi : Int32) : Int32 := if f * hi ≤ f * lo then f * hi else f * lo
def prmF (a : Int64) (t : Int32) : Int32 := if ¬ t = 0 then (16 * a / t.toInt64).toInt32 else 0
theorem i64_ne0 {t : Int32} (h : ¬ t = 0) : ¬ t.toInt64 = 0 := by
  intro e
  have h1 : t.toInt64.toInt = (0 : Int64).toInt := by rw [e]
  rw [Int32.toInt_toInt64] at h1
  exact h (Int32.toInt_inj.mp (by rw [h1]; decide))
def isM (μ : Nat → Nat → Int32) (s : Int32) : Nat → Int32
  | 0 => 0
  | i + 1 => if ¬ μ 57 i = s then isM μ s i else isM μ s i + 1
theorem i32_nlt {a b : Int32} (h : b ≤ a) : ¬ a < b := by
  rw [Int32.le_iff_toInt_le] at h; rw [Int32.lt_iff_toInt_lt]; omega
theorem i32_lt {a b : Int32} (h : ¬ b ≤ a) : a < b := by
  rw [Int32.le_iff_toInt_le] at h; rw [Int32.lt_iff_toInt_lt]; omega
section MODEL
variable {l : Launch} {E : zE} {ad : Nat → Nat} {al : Nat} {μ : Nat → Nat → Int32} {pa : Nat → Nat → Int64}
set_option maxRecDepth 100000 in
set_option maxHeartbeats 4000000 in
theorem m_Mo_in {x y z : Int32} {a b c : Int64} (ha : a = x.toInt64) (hb : b = y.toInt64) (hc : c = z.toInt64) : rMet l y_Mo_in b_Mo_in 6 (some .boolean) (zR 0) E [.long a, .long b, .long c] ad al μ pa (.int (inF x y z)) := by
  subst ha; subst hb; subst hc
  intro h hR
  refine zMet.ofG (L := [some (.long x.toInt64), none, some (.long y.toInt64), none, some (.long z.toInt64), none]) (by decide +kernel) (Nat.le_of_ble_eq_true rfl) (fun j w hj => ?_) fun X hl C Z => ?_
  · match j, hj with
    | 0, hj => cases hj; exact List.mem_cons_self
    | 1, hj => cases hj
    | 2, hj => cases hj; exact List.mem_cons_of_mem _ List.mem_cons_self
    | 3, hj => cases hj
    | 4, hj => cases hj; exact List.mem_cons_of_mem _ (List.mem_cons_of_mem _ List.mem_cons_self)
    | 5, hj => cases hj
    | j + 6, hj => simp at hj
  refine zz_lload_n C d_Mo_in_0 rfl rfl ?_
  refine zz_lload_n C d_Mo_in_1 rfl rfl ?_
  refine zz_lcmp C d_Mo_in_2 ?_
  refine zz_if_lt (tgt := 17) C d_Mo_in_3 (by decide) (fun c_3 => ?_) (fun c_3 => ?_)
  · rw [lgc_lt] at c_3
    refine zz_iconst (v := 0) C d_Mo_in_17 (by decide) ?_
    refine zz_zret C Z d_Mo_in_18 (by first | rfl | decide | assumption) ?_
    exact ⟨by simp [inF, c_3], rfl, rfl⟩
  · rw [lgc_lt] at c_3
    refine zz_lload_n C d_Mo_in_6 rfl rfl ?_
    refine zz_lload C d_Mo_in_7 rfl ?_
    refine zz_lcmp C d_Mo_in_9 ?_
    refine zz_if_gt (tgt := 17) C d_Mo_in_10 (by decide) (fun c_10 => ?_) (fun c_10 => ?_)
    · rw [lgc_gt] at c_10
      refine zz_iconst (v := 0) C d_Mo_in_17 (by decide) ?_
      refine zz_zret C Z d_Mo_in_18 (by first | rfl | decide | assumption) ?_
      exact ⟨by simp [inF, c_3, c_10], rfl, rfl⟩
    · rw [lgc_gt] at c_10
      refine zz_iconst (v := 1) C d_Mo_in_13 (by decide) ?_
      refine zz_goto (tgt := 18) C d_Mo_in_14 (by decide) ?_
      refine zz_zret C Z d_Mo_in_18 (by first | rfl | decide | assumption) ?_
      exact ⟨by simp [inF, c_3, c_10], rfl, rfl⟩
set_option maxRecDepth 100000 in
set_option maxHeartbeats 4000000 in
theorem m_Mo_noName {n : Nat} {x : Int32} (hn : n ≤ 8) (hN : μ 40 1 = nI n) : rMet l y_Mo_noName b_Mo_noName 2 (some .boolean) (zR 1) E [.ref (ad 40), .int x] ad al μ pa (.int (if ¬ hasN x (nI n) = 0 then 0 else 1)) := by
  intro h hR
  refine zMet.of (L := [some (.ref (ad 40)), some (.int x)]) (by decide +kernel) (Nat.le_of_ble_eq_true rfl) rfl 0 rfl fun X hl C Z => ?_
  refine zz_iload_n C d_Mo_noName_0 rfl rfl ?_
  refine zz_i2l C d_Mo_noName_1 ?_
  refine zz_lconst (v := 0) C d_Mo_noName_2 (by decide) ?_
  refine zz_aload_n C d_Mo_noName_3 rfl rfl ?_
  refine zz_getV C hR (nI n) _ d_Mo_noName_4 zf_Mo_85 rfl rfl hN ?_
  refine zz_iconst (v := 1) C d_Mo_noName_7 (by decide) ?_
  refine zz_isub C d_Mo_noName_8 ?_
  refine zz_i2l C d_Mo_noName_9 ?_
  refine zz_callSr (e := 0) C hR d_Mo_noName_10 mk_Mo_88 zy_Mo_in (m_Mo_in (x := x) (y := 0) (z := nI n - 1) rfl (by decide) rfl) ⟨by decide, by decide⟩ ⟨Nat.zero_le _, Nat.zero_le _⟩ rfl rfl (Nat.le_of_ble_eq_true rfl) ?_
  rw [inF_has (by omega)]
  refine zz_if_ne (tgt := 20) C d_Mo_noName_13 (by decide) (fun c_13 => ?_) (fun c_13 => ?_)
  · refine zz_iconst (v := 0) C d_Mo_noName_20 (by decide) ?_
    refine zz_zret C Z d_Mo_noName_21 (by first | rfl | decide | assumption) ?_
    exact ⟨by simp [c_13], rfl, rfl⟩
  · refine zz_iconst (v := 1) C d_Mo_noName_16 (by decide) ?_
    refine zz_goto (tgt := 21) C d_Mo_noName_17 (by decide) ?_
    refine zz_zret C Z d_Mo_noName_21 (by first | rfl | decide | assumption) ?_
    exact ⟨by simp [c_13], rfl, rfl⟩
set_option maxRecDepth 100000 in
set_option maxHeartbeats 4000000 in
theorem m_Mo_priceOf {j : Nat} (hj : j < 8) : rMet l y_Mo_priceOf b_Mo_priceOf 2 (some .int) (zR 0) E [.ref (ad 40), .int (nI j)] ad al μ pa (.int (prmF (pa 43 j) (μ 44 j))) := by
  intro h hR
  refine zMet.of (L := [some (.ref (ad 40)), some (.int (nI j))]) (by decide +kernel) (Nat.le_of_ble_eq_true rfl) rfl 0 rfl fun X hl C Z => ?_
  refine zz_aload_n C d_Mo_priceOf_0 rfl rfl ?_
  refine zz_get C d_Mo_priceOf_1 zf_Mo_24 ((hR _).trans rfl) rfl ?_
  refine zz_iload_n C d_Mo_priceOf_4 rfl rfl ?_
  refine zz_ialdR (j := j) C hR d_Mo_priceOf_5 (fun _ _ => rfl) rfl hj (by decide) ?_
  refine zz_if_ne (tgt := 13) C d_Mo_priceOf_6 (by decide) (fun c_6 => ?_) (fun c_6 => ?_)
  · refine zz_ldc2 C _ d_Mo_priceOf_13 co_Mo_166 ?_
    refine zz_aload_n C d_Mo_priceOf_16 rfl rfl ?_
    refine zz_get C d_Mo_priceOf_17 zf_Mo_20 ((hR _).trans rfl) rfl ?_
    refine zz_iload_n C d_Mo_priceOf_20 rfl rfl ?_
    refine zz_laldR (j := j) C hR d_Mo_priceOf_21 (fun _ _ => rfl) rfl hj (by decide) ?_
    refine zz_lmul C d_Mo_priceOf_22 ?_
    refine zz_aload_n C d_Mo_priceOf_23 rfl rfl ?_
    refine zz_get C d_Mo_priceOf_24 zf_Mo_24 ((hR _).trans rfl) rfl ?_
    refine zz_iload_n C d_Mo_priceOf_27 rfl rfl ?_
    refine zz_ialdR (j := j) C hR d_Mo_priceOf_28 (fun _ _ => rfl) rfl hj (by decide) ?_
    refine zz_i2l C d_Mo_priceOf_29 ?_
    refine zz_ldiv C d_Mo_priceOf_30 (i64_ne0 c_6) ?_
    refine zz_l2i C d_Mo_priceOf_31 ?_
    refine zz_iret C Z d_Mo_priceOf_32 ?_
    exact ⟨by simp [prmF, c_6], rfl, rfl⟩
  · refine zz_iconst (v := 0) C d_Mo_priceOf_9 (by decide) ?_
    refine zz_goto (tgt := 32) C d_Mo_priceOf_10 (by decide) ?_
    refine zz_iret C Z d_Mo_priceOf_32 ?_
    exact ⟨by simp [prmF, c_6], rfl, rfl⟩
set_option maxRecDepth 100000 in
set_option maxHeartbeats 4000000 in
theorem m_Mo_factorOf {r k : Nat} {t : Int32} (hr : r < 16) (hk : k < 8) : rMet l y_Mo_factorOf b_Mo_factorOf 5 (some .int) (zR 0) E [.ref (ad 40), .int (nI r), .int (nI k), .int t] ad al μ pa (.int (foF μ r k t)) := by
  intro h hR
  refine zMet.of (L := [some (.ref (ad 40)), some (.int (nI r)), some (.int (nI k)), some (.int t), none]) (by decide +kernel) (Nat.le_of_ble_eq_true rfl) rfl 1 rfl fun X hl C Z => ?_
  refine zz_iload_n C d_Mo_factorOf_0 rfl rfl ?_
  refine zz_bipush (v := 16) C d_Mo_factorOf_1 (by decide) ?_
  refine zz_icmp_ne (tgt := 15) C d_Mo_factorOf_3 (by decide) (fun c_3 => ?_) (fun c_3 => ?_)
  · refine zz_aload_n C d_Mo_factorOf_15 rfl rfl ?_
    refine zz_get C d_Mo_factorOf_16 zf_Mo_33 ((hR _).trans rfl) rfl ?_
    refine zz_bipush (v := 8) C d_Mo_factorOf_19 (by decide) ?_
    refine zz_iload_n C d_Mo_factorOf_21 rfl rfl ?_
    refine zz_imul C d_Mo_factorOf_22 ?_
    refine zz_iload_n C d_Mo_factorOf_23 rfl rfl ?_
    refine zz_iadd C d_Mo_factorOf_24 ?_
    refine zz_ialdR (j := 8 * r + k) C hR d_Mo_factorOf_25 (fun _ _ => rfl) (ix8 r k) (by omega) (by decide) ?_
    refine zz_istore C d_Mo_factorOf_26 (by decide) rfl ?_
    refine zz_iload_n C d_Mo_factorOf_28 rfl rfl ?_
    refine zz_if_eq (tgt := 38) C d_Mo_factorOf_29 (by decide) (fun c_29 => ?_) (fun c_29 => ?_)
    · refine zz_iload C d_Mo_factorOf_38 rfl ?_
      refine zz_iret C Z d_Mo_factorOf_40 ?_
      exact ⟨by simp [foF, show ¬ r = 16 by omega, c_3, c_29], rfl, rfl⟩
    · refine zz_iload C d_Mo_factorOf_32 rfl ?_
      refine zz_ineg C d_Mo_factorOf_34 ?_
      refine zz_goto (tgt := 40) C d_Mo_factorOf_35 (by decide) ?_
      refine zz_iret C Z d_Mo_factorOf_40 ?_
      exact ⟨by simp [foF, show ¬ r = 16 by omega, c_3, c_29], rfl, rfl⟩
  · exact absurd c_3 (fun q => absurd ((nI_eq (b := 16) (by omega) (by decide)).mp q) (by omega))
set_option maxRecDepth 100000 in
set_option maxHeartbeats 4000000 in
theorem m_Mo_factorOf_cost {k : Nat} {t : Int32} (hk : k < 8) : rMet l y_Mo_factorOf b_Mo_factorOf 5 (some .int) (zR 0) E [.ref (ad 40), .int 16, .int (nI k), .int t] ad al μ pa (.int (foF μ 16 k t)) := by
  intro h hR
  refine zMet.of (L := [some (.ref (ad 40)), some (.int 16), some (.int (nI k)), some (.int t), none]) (by decide +kernel) (Nat.le_of_ble_eq_true rfl) rfl 1 rfl fun X hl C Z => ?_
  refine zz_iload_n C d_Mo_factorOf_0 rfl rfl ?_
  refine zz_bipush (v := 16) C d_Mo_factorOf_1 (by decide) ?_
  refine zz_icmp_ne (tgt := 15) C d_Mo_factorOf_3 (by decide) (fun c_3 => ?_) (fun c_3 => ?_)
  · exact absurd rfl c_3
  · refine zz_aload_n C d_Mo_factorOf_6 rfl rfl ?_
    refine zz_get C d_Mo_factorOf_7 zf_Mo_27 ((hR _).trans rfl) rfl ?_
    refine zz_iload_n C d_Mo_factorOf_10 rfl rfl ?_
    refine zz_ialdR (j := k) C hR d_Mo_factorOf_11 (fun _ _ => rfl) rfl hk (by decide) ?_
    refine zz_goto (tgt := 26) C d_Mo_factorOf_12 (by decide) ?_
    refine zz_istore C d_Mo_factorOf_26 (by decide) rfl ?_
    refine zz_iload_n C d_Mo_factorOf_28 rfl rfl ?_
    refine zz_if_eq (tgt := 38) C d_Mo_factorOf_29 (by decide) (fun c_29 => ?_) (fun c_29 => ?_)
    · refine zz_iload C d_Mo_factorOf_38 rfl ?_
      refine zz_iret C Z d_Mo_factorOf_40 ?_
      exact ⟨by simp [foF, c_3, c_29], rfl, rfl⟩
    · refine zz_iload C d_Mo_factorOf_32 rfl ?_
      refine zz_ineg C d_Mo_factorOf_34 ?_
      refine zz_goto (tgt := 40) C d_Mo_factorOf_35 (by decide) ?_
      refine zz_iret C Z d_Mo_factorOf_40 ?_
      exact ⟨by simp [foF, c_3, c_29], rfl, rfl⟩
set_option maxRecDepth 100000 in
set_option maxHeartbeats 4000000 in
theorem m_Mo_leastOf {f : Int32} {k : Nat} (hk : k < 8) : rMet l y_Mo_leastOf b_Mo_leastOf 5 (some .int) (zR 0) E [.ref (ad 40), .int f, .int (nI k)] ad al μ pa (.int (leF f (μ 62 k) (μ 63 k))) := by
  intro h hR
  refine zMet.of (L := [some (.ref (ad 40)), some (.int f), some (.int (nI k)), none, none]) (by decide +kernel) (Nat.le_of_ble_eq_true rfl) rfl 2 rfl fun X hl C Z => ?_
  refine zz_iload_n C d_Mo_leastOf_0 rfl rfl ?_
  refine zz_aload_n C d_Mo_leastOf_1 rfl rfl ?_
  refine zz_get C d_Mo_leastOf_2 zf_Mo_79 ((hR _).trans rfl) rfl ?_
  refine zz_iload_n C d_Mo_leastOf_5 rfl rfl ?_
  refine zz_ialdR (j := k) C hR d_Mo_leastOf_6 (fun _ _ => rfl) rfl hk (by decide) ?_
  refine zz_imul C d_Mo_leastOf_7 ?_
  refine zz_istore_n C d_Mo_leastOf_8 rfl (by decide) rfl ?_
  refine zz_iload_n C d_Mo_leastOf_9 rfl rfl ?_
  refine zz_aload_n C d_Mo_leastOf_10 rfl rfl ?_
  refine zz_get C d_Mo_leastOf_11 zf_Mo_82 ((hR _).trans rfl) rfl ?_
  refine zz_iload_n C d_Mo_leastOf_14 rfl rfl ?_
  refine zz_ialdR (j := k) C hR d_Mo_leastOf_15 (fun _ _ => rfl) rfl hk (by decide) ?_
  refine zz_imul C d_Mo_leastOf_16 ?_
  refine zz_istore C d_Mo_leastOf_17 (by decide) rfl ?_
  refine zz_iload_n C d_Mo_leastOf_19 rfl rfl ?_
  refine zz_iload C d_Mo_leastOf_20 rfl ?_
  refine zz_icmp_ge (tgt := 29) C d_Mo_leastOf_22 (by decide) (fun c_22 => ?_) (fun c_22 => ?_)
  · refine zz_iload C d_Mo_leastOf_29 rfl ?_
    refine zz_iret C Z d_Mo_leastOf_31 ?_
    exact ⟨by simp [leF, c_22], rfl, rfl⟩
  · refine zz_iload_n C d_Mo_leastOf_25 rfl rfl ?_
    refine zz_goto (tgt := 31) C d_Mo_leastOf_26 (by decide) ?_
    refine zz_iret C Z d_Mo_leastOf_31 ?_
    exact ⟨by simp [leF, c_22], rfl, rfl⟩
def ptA0 (μ : Nat → Nat → Int32) : Nat → Nat → Int32 := va_up μ 40 (upd (upd (upd (μ 40) 17 0) 18 0) 14 0)
def ptR (μ : Nat → Nat → Int32) (i : Nat) : Nat → Nat → Int32 := va_up μ 44 (cpn i (fun _ => 0) (μ 44))
def ptL (pa : Nat → Nat → Int64) (i : Nat) : Nat → Nat → Int64 := va_up pa 43 (cpn i (fun _ => 0) (pa 43))
set_option maxRecDepth 100000 in
set_option maxHeartbeats 4000000 in
theorem lp_Mo_problemTold {X : zX} {post : Option Value → (Nat → Nat) → zH → Prop} (C : zc X E b_Mo_problemTold 2 "BranchTreesModel" (zR 0)) (Z : zr X E none 0 0 post) (hpost : ∀ h, zRep E ad al (ptR μ 8) (ptL pa 8) h → post none ad h) :
    ∀ (k i : Nat), 8 - i = k → i ≤ 8 → ∀ h, zRep E ad al (ptR μ i) (ptL pa i) h → zz X E 2 ad 0 0 17 [some (.ref (ad 40)), some (.int (nI i))] [] h := by
  intro k
  induction k with
  | zero =>
    intro i hk hin h hR
    have e : i = 8 := by omega
    subst e
    refine zz_iload_n C d_Mo_problemTold_17 rfl rfl ?_
    refine zz_bipush (v := 8) C d_Mo_problemTold_18 (by decide) ?_
    refine zz_icmp_ge (tgt := 43) C d_Mo_problemTold_20 (by decide) (fun c_20 => ?_) (fun c_20 => ?_)
    · refine zz_vret C Z d_Mo_problemTold_43 ?_
      exact hpost h hR
    · exact absurd (by decide) c_20
  | succ k ih =>
    intro i hk hin h hR
    have hlt : i < 8 := by omega
    have e5 : va_up (ptR μ i) 44 (upd (ptR μ i 44) i 0) = ptR μ (i + 1) := by
      have := cpn_s i (fun _ => (0 : Int32)) (μ 44)
      unfold ptR; rw [va_up_self, bx_uu, this]
    have e6 : va_up (ptL pa i) 43 (vp_updL (ptL pa i 43) i 0) = ptL pa (i + 1) := by
      have := cpn_sL i (fun _ => (0 : Int64)) (pa 43)
      unfold ptL; rw [va_up_self, bx_uu, this]
    refine zz_iload_n C d_Mo_problemTold_17 rfl rfl ?_
    refine zz_bipush (v := 8) C d_Mo_problemTold_18 (by decide) ?_
    refine zz_icmp_ge (tgt := 43) C d_Mo_problemTold_20 (by decide) (fun c_20 => ?_) (fun c_20 => ?_)
    · exact absurd c_20 (nI_ge (b := 8) hlt (by decide))
    · refine zz_aload_n C d_Mo_problemTold_23 rfl rfl ?_
      refine zz_get C d_Mo_problemTold_24 zf_Mo_20 ((hR _).trans rfl) rfl ?_
      refine zz_iload_n C d_Mo_problemTold_27 rfl rfl ?_
      refine zz_lconst (v := 0) C d_Mo_problemTold_28 (by decide) ?_
      refine zz_lastR (j := i) C hR d_Mo_problemTold_29 (fun _ _ => rfl) rfl hlt (by decide) (fun h hR => ?_)
      refine zz_aload_n C d_Mo_problemTold_30 rfl rfl ?_
      refine zz_get C d_Mo_problemTold_31 zf_Mo_24 ((hR _).trans rfl) rfl ?_
      refine zz_iload_n C d_Mo_problemTold_34 rfl rfl ?_
      refine zz_iconst (v := 0) C d_Mo_problemTold_35 (by decide) ?_
      refine zz_iastR (j := i) C hR d_Mo_problemTold_36 (fun _ _ => rfl) rfl hlt (by decide) (fun h hR => ?_)
      refine zz_iinc C d_Mo_problemTold_37 rfl (nI_inc _) (by decide) rfl ?_
      refine zz_goto (tgt := 17) C d_Mo_problemTold_40 (by decide) ?_
      rw [e5, e6] at hR
      exact ih (i + 1) (by omega) hlt h hR
set_option maxRecDepth 100000 in
set_option maxHeartbeats 4000000 in
theorem m_Mo_problemTold : wMet l y_Mo_problemTold b_Mo_problemTold 2 none (zR 0) E [.ref (ad 40)] ad al μ pa none (ptR (ptA0 μ) 8) (ptL pa 8) := by
  intro h hR
  refine zMet.of (L := [some (.ref (ad 40)), none]) (by decide +kernel) (Nat.le_of_ble_eq_true rfl) rfl 1 rfl fun X hl C Z => ?_
  refine zz_aload_n C d_Mo_problemTold_0 rfl rfl ?_
  refine zz_iconst (v := 0) C d_Mo_problemTold_1 (by decide) ?_
  refine zz_putI C hR d_Mo_problemTold_2 zp_Mo_92 rfl rfl rfl (Nat.le_of_ble_eq_true rfl) rfl (fun h hR => ?_)
  refine zz_aload_n C d_Mo_problemTold_5 rfl rfl ?_
  refine zz_iconst (v := 0) C d_Mo_problemTold_6 (by decide) ?_
  refine zz_putI C hR d_Mo_problemTold_7 zp_Mo_95 rfl rfl rfl (Nat.le_of_ble_eq_true rfl) rfl (fun h hR => ?_)
  refine zz_aload_n C d_Mo_problemTold_10 rfl rfl ?_
  refine zz_iconst (v := 0) C d_Mo_problemTold_11 (by decide) ?_
  refine zz_putI C hR d_Mo_problemTold_12 zp_Mo_98 rfl rfl rfl (Nat.le_of_ble_eq_true rfl) rfl (fun h hR => ?_)
  refine zz_iconst (v := 0) C d_Mo_problemTold_15 (by decide) ?_
  refine zz_istore_n C d_Mo_problemTold_16 rfl (by decide) rfl ?_
  simp only [bx_uu, va_up_self] at hR
  exact lp_Mo_problemTold C Z (μ := ptA0 μ) (fun h hR => ⟨rfl, rfl, hR⟩) 8 0 rfl (Nat.zero_le _) h (hR.eq (by unfold ptR; rw [cpn_0, va_up_id]; rfl) (by unfold ptL; rw [cpn_0, va_up_id]))
set_option maxRecDepth 100000 in
set_option maxHeartbeats 4000000 in
theorem m_Mo_cut {j : Nat} {side v : Int32} (hj : j < 8) : wMet l y_Mo_cut b_Mo_cut 4 none (zR 0) E [.ref (ad 40), .int (nI j), .int side, .int v] ad al μ pa none (cutF μ 62 63 j side v) pa := by
  intro h hR
  refine zMet.of (L := [some (.ref (ad 40)), some (.int (nI j)), some (.int side), some (.int v)]) (by decide +kernel) (Nat.le_of_ble_eq_true rfl) rfl 0 rfl fun X hl C Z => ?_
  refine zz_iload_n C d_Mo_cut_0 rfl rfl ?_
  refine zz_if_ne (tgt := 33) C d_Mo_cut_1 (by decide) (fun c_1 => ?_) (fun c_1 => ?_)
  · refine zz_aload_n C d_Mo_cut_33 rfl rfl ?_
    refine zz_get C d_Mo_cut_34 zf_Mo_79 ((hR _).trans rfl) rfl ?_
    refine zz_iload_n C d_Mo_cut_37 rfl rfl ?_
    refine zz_iload_n C d_Mo_cut_38 rfl rfl ?_
    refine zz_aload_n C d_Mo_cut_39 rfl rfl ?_
    refine zz_get C d_Mo_cut_40 zf_Mo_79 ((hR _).trans rfl) rfl ?_
    refine zz_iload_n C d_Mo_cut_43 rfl rfl ?_
    refine zz_ialdR (j := j) C hR d_Mo_cut_44 (fun _ _ => rfl) rfl hj (by decide) ?_
    refine zz_icmp_le (tgt := 52) C d_Mo_cut_45 (by decide) (fun c_45 => ?_) (fun c_45 => ?_)
    · have c_45 := i32_nlt c_45
      refine zz_aload_n C d_Mo_cut_52 rfl rfl ?_
      refine zz_get C d_Mo_cut_53 zf_Mo_79 ((hR _).trans rfl) rfl ?_
      refine zz_iload_n C d_Mo_cut_56 rfl rfl ?_
      refine zz_ialdR (j := j) C hR d_Mo_cut_57 (fun _ _ => rfl) rfl hj (by decide) ?_
      refine zz_iastR (j := j) C hR d_Mo_cut_58 (fun _ _ => rfl) rfl hj (by decide) (fun h hR => ?_)
      refine zz_vret C Z d_Mo_cut_59 ?_
      exact ⟨rfl, rfl, by simpa [cutF, minF, maxF, c_1, c_45] using hR⟩
    · have c_45 := i32_lt c_45
      refine zz_iload_n C d_Mo_cut_48 rfl rfl ?_
      refine zz_goto (tgt := 58) C d_Mo_cut_49 (by decide) ?_
      refine zz_iastR (j := j) C hR d_Mo_cut_58 (fun _ _ => rfl) rfl hj (by decide) (fun h hR => ?_)
      refine zz_vret C Z d_Mo_cut_59 ?_
      exact ⟨rfl, rfl, by simpa [cutF, minF, maxF, c_1, c_45] using hR⟩
  · refine zz_aload_n C d_Mo_cut_4 rfl rfl ?_
    refine zz_get C d_Mo_cut_5 zf_Mo_82 ((hR _).trans rfl) rfl ?_
    refine zz_iload_n C d_Mo_cut_8 rfl rfl ?_
    refine zz_iload_n C d_Mo_cut_9 rfl rfl ?_
    refine zz_aload_n C d_Mo_cut_10 rfl rfl ?_
    refine zz_get C d_Mo_cut_11 zf_Mo_82 ((hR _).trans rfl) rfl ?_
    refine zz_iload_n C d_Mo_cut_14 rfl rfl ?_
    refine zz_ialdR (j := j) C hR d_Mo_cut_15 (fun _ _ => rfl) rfl hj (by decide) ?_
    refine zz_icmp_ge (tgt := 23) C d_Mo_cut_16 (by decide) (fun c_16 => ?_) (fun c_16 => ?_)
    · have c_16 := i32_nlt c_16
      refine zz_aload_n C d_Mo_cut_23 rfl rfl ?_
      refine zz_get C d_Mo_cut_24 zf_Mo_82 ((hR _).trans rfl) rfl ?_
      refine zz_iload_n C d_Mo_cut_27 rfl rfl ?_
      refine zz_ialdR (j := j) C hR d_Mo_cut_28 (fun _ _ => rfl) rfl hj (by decide) ?_
      refine zz_iastR (j := j) C hR d_Mo_cut_29 (fun _ _ => rfl) rfl hj (by decide) (fun h hR => ?_)
      refine zz_goto (tgt := 59) C d_Mo_cut_30 (by decide) ?_
      refine zz_vret C Z d_Mo_cut_59 ?_
      exact ⟨rfl, rfl, by simpa [cutF, minF, maxF, c_1, c_16] using hR⟩
    · have c_16 := i32_lt c_16
      refine zz_iload_n C d_Mo_cut_19 rfl rfl ?_
      refine zz_goto (tgt := 29) C d_Mo_cut_20 (by decide) ?_
      refine zz_iastR (j := j) C hR d_Mo_cut_29 (fun _ _ => rfl) rfl hj (by decide) (fun h hR => ?_)
      refine zz_goto (tgt := 59) C d_Mo_cut_30 (by decide) ?_
      refine zz_vret C Z d_Mo_cut_59 ?_
      exact ⟨rfl, rfl, by simpa [cutF, minF, maxF, c_1, c_16] using hR⟩
set_option maxRecDepth 100000 in
set_option maxHeartbeats 4000000 in
theorem lp_Mo_inState {X : zX} {h : zH} {post : Option Value → (Nat → Nat) → zH → Prop} (C : zc X E b_Mo_inState 4 "BranchTreesModel" (zR 0)) (Z : zr X E (some .int) 0 0 post) {sz : Nat} (hS : μ 40 17 = nI sz) (hsz : sz ≤ 600) {s : Int32} (hR : zRep E ad al μ pa h) (hpost : post (some (.int (isM μ s sz))) ad h) :
    ∀ (k i : Nat), sz - i = k → i ≤ sz → zz X E 4 ad 0 0 4 [some (.ref (ad 40)), some (.int s), some (.int (isM μ s i)), some (.int (nI i))] [] h := by
  intro k
  induction k with
  | zero =>
    intro i hk hin
    have e : i = sz := by omega
    subst e
    refine zz_iload_n C d_Mo_inState_4 rfl rfl ?_
    refine zz_aload_n C d_Mo_inState_5 rfl rfl ?_
    refine zz_get C d_Mo_inState_6 zf_Mo_92 ((hR _).trans rfl) rfl ?_
    refine zz_icmp_ge (tgt := 36) C d_Mo_inState_9 (by decide) (fun c_9 => ?_) (fun c_9 => ?_)
    · refine zz_iload_n C d_Mo_inState_36 rfl rfl ?_
      refine zz_iret C Z d_Mo_inState_37 ?_
      exact hpost
    · exact absurd (by rw [hS]; exact nI_le (Nat.le_refl _) (by omega)) c_9
  | succ k ih =>
    intro i hk hin
    have hlt : i < sz := by omega
    have K := ih (i + 1) (by omega) hlt
    refine zz_iload_n C d_Mo_inState_4 rfl rfl ?_
    refine zz_aload_n C d_Mo_inState_5 rfl rfl ?_
    refine zz_get C d_Mo_inState_6 zf_Mo_92 ((hR _).trans rfl) rfl ?_
    refine zz_icmp_ge (tgt := 36) C d_Mo_inState_9 (by decide) (fun c_9 => ?_) (fun c_9 => ?_)
    · exact absurd (by rw [hS] at c_9; exact c_9) (nI_ge hlt (by omega))
    · refine zz_aload_n C d_Mo_inState_12 rfl rfl ?_
      refine zz_get C d_Mo_inState_13 zf_Mo_64 ((hR _).trans rfl) rfl ?_
      refine zz_iload_n C d_Mo_inState_16 rfl rfl ?_
      refine zz_ialdR (j := i) C hR d_Mo_inState_17 (fun _ _ => rfl) rfl (by omega) (by decide) ?_
      refine zz_iload_n C d_Mo_inState_18 rfl rfl ?_
      refine zz_icmp_ne (tgt := 28) C d_Mo_inState_19 (by decide) (fun c_19 => ?_) (fun c_19 => ?_)
      · refine zz_iload_n C d_Mo_inState_28 rfl rfl ?_
        refine zz_istore_n C d_Mo_inState_29 rfl (by decide) rfl ?_
        refine zz_iinc C d_Mo_inState_30 rfl (nI_inc _) (by decide) rfl ?_
        refine zz_goto (tgt := 4) C d_Mo_inState_33 (by decide) ?_
        simp only [isM, c_9, c_19, if_true, if_false, not_true_eq_false, not_false_eq_true] at K
        exact K
      · refine zz_iload_n C d_Mo_inState_22 rfl rfl ?_
        refine zz_iconst (v := 1) C d_Mo_inState_23 (by decide) ?_
        refine zz_iadd C d_Mo_inState_24 ?_
        refine zz_goto (tgt := 29) C d_Mo_inState_25 (by decide) ?_
        refine zz_istore_n C d_Mo_inState_29 rfl (by decide) rfl ?_
        refine zz_iinc C d_Mo_inState_30 rfl (nI_inc _) (by decide) rfl ?_
        refine zz_goto (tgt := 4) C d_Mo_inState_33 (by decide) ?_
        simp only [isM, c_9, c_19, if_true, if_false, not_true_eq_false, not_false_eq_true] at K
        exact K
set_option maxRecDepth 100000 in
set_option maxHeartbeats 4000000 in
theorem m_Mo_inState {sz : Nat} (hS : μ 40 17 = nI sz) (hsz : sz ≤ 600) {s : Int32} : rMet l y_Mo_inState b_Mo_inState 4 (some .int) (zR 0) E [.ref (ad 40), .int s] ad al μ pa (.int (isM μ s sz)) := by
  intro h hR
  refine zMet.of (L := [some (.ref (ad 40)), some (.int s), none, none]) (by decide +kernel) (Nat.le_of_ble_eq_true rfl) rfl 2 rfl fun X hl C Z => ?_
  refine zz_iconst (v := 0) C d_Mo_inState_0 (by decide) ?_
  refine zz_istore_n C d_Mo_inState_1 rfl (by decide) rfl ?_
  refine zz_iconst (v := 0) C d_Mo_inState_2 (by decide) ?_
  refine zz_istore_n C d_Mo_inState_3 rfl (by decide) rfl ?_
  exact lp_Mo_inState C Z hS hsz hR ⟨rfl, rfl, rfl⟩ sz 0 rfl (Nat.zero_le _)
def tbF (μ : Nat → Nat → Int32) (lo hi : Nat → Int32) (i : Nat) : Nat → Nat → Int32 := va_up (va_up μ 62 (cpn i lo (μ 62))) 63 (cpn i hi (μ 63))
set_option maxRecDepth 100000 in
set_option maxHeartbeats 4000000 in
theorem lp_Mo_takeBounds_root {X : zX} {post : Option Value → (Nat → Nat) → zH → Prop} (C : zc X E b_Mo_takeBounds 3 "BranchTreesModel" (zR 0)) (Z : zr X E none 0 0 post) {n : Nat} (hn : n ≤ 8) (hN : μ 40 1 = nI n)  (hpost : ∀ h, zRep E ad al (tbF μ (μ 41) (μ 42) n) pa h → post none ad h) :
    ∀ (k i : Nat), n - i = k → i ≤ n → ∀ h, zRep E ad al (tbF μ (μ 41) (μ 42) i) pa h → zz X E 3 ad 0 0 2 [some (.ref (ad 40)), some (.int (-1)), some (.int (nI i))] [] h := by
  intro k
  induction k with
  | zero =>
    intro i hk hin h hR
    have e : i = n := by omega
    subst e
    have hN' : tbF μ (μ 41) (μ 42) i 40 1 = nI i := hN
    refine zz_iload_n C d_Mo_takeBounds_2 rfl rfl ?_
    refine zz_aload_n C d_Mo_takeBounds_3 rfl rfl ?_
    refine zz_getV C hR (nI i) _ d_Mo_takeBounds_4 zf_Mo_85 rfl rfl hN' ?_
    refine zz_icmp_ge (tgt := 76) C d_Mo_takeBounds_7 (by decide) (fun c_7 => ?_) (fun c_7 => ?_)
    · refine zz_vret C Z d_Mo_takeBounds_76 ?_
      exact hpost h hR
    · exact absurd (nI_le (Nat.le_refl _) (by omega)) c_7
  | succ k ih =>
    intro i hk hin h hR
    have hlt : i < n := by omega
    have hN' : tbF μ (μ 41) (μ 42) i 40 1 = nI n := hN
    have K := ih (i + 1) (by omega) hlt
    have e5 : va_up (va_up (tbF μ (μ 41) (μ 42) i) 62 (upd (tbF μ (μ 41) (μ 42) i 62) i ((μ 41) i))) 63 (upd (va_up (tbF μ (μ 41) (μ 42) i) 62 (upd (tbF μ (μ 41) (μ 42) i 62) i ((μ 41) i)) 63) i ((μ 42) i)) = tbF μ (μ 41) (μ 42) (i + 1) := by
      have h2 : tbF μ (μ 41) (μ 42) i 62 = cpn i (μ 41) (μ 62) := rfl
      have h3 : va_up (tbF μ (μ 41) (μ 42) i) 62 (upd (tbF μ (μ 41) (μ 42) i 62) i ((μ 41) i)) 63 = cpn i (μ 42) (μ 63) := rfl
      rw [h3, h2, cpn_s, cpn_s]
      unfold tbF
      rw [va_up_com (show (63 : Nat) ≠ 62 by decide), bx_uu, bx_uu]
    rw [← e5] at K
    refine zz_iload_n C d_Mo_takeBounds_2 rfl rfl ?_
    refine zz_aload_n C d_Mo_takeBounds_3 rfl rfl ?_
    refine zz_getV C hR (nI n) _ d_Mo_takeBounds_4 zf_Mo_85 rfl rfl hN' ?_
    refine zz_icmp_ge (tgt := 76) C d_Mo_takeBounds_7 (by decide) (fun c_7 => ?_) (fun c_7 => ?_)
    · exact absurd c_7 (nI_ge hlt (by omega))
    · refine zz_aload_n C d_Mo_takeBounds_10 rfl rfl ?_
      refine zz_get C d_Mo_takeBounds_11 zf_Mo_79 ((hR _).trans rfl) rfl ?_
      refine zz_iload_n C d_Mo_takeBounds_14 rfl rfl ?_
      refine zz_iload_n C d_Mo_takeBounds_15 rfl rfl ?_
      refine zz_if_ge (tgt := 28) C d_Mo_takeBounds_16 (by decide) (fun c_16 => ?_) (fun c_16 => ?_)
      · exact absurd c_16 (by decide)
      · refine zz_aload_n C d_Mo_takeBounds_19 rfl rfl ?_
        refine zz_get C d_Mo_takeBounds_20 zf_Mo_13 ((hR _).trans rfl) rfl ?_
        refine zz_iload_n C d_Mo_takeBounds_23 rfl rfl ?_
        refine zz_ialdR (j := i) C hR d_Mo_takeBounds_24 (fun _ _ => rfl) rfl (by omega) (by decide) ?_
        refine zz_goto (tgt := 39) C d_Mo_takeBounds_25 (by decide) ?_
        refine zz_iastR (j := i) C hR d_Mo_takeBounds_39 (fun _ _ => rfl) rfl (by omega) (by decide) (fun h hR => ?_)
        refine zz_aload_n C d_Mo_takeBounds_40 rfl rfl ?_
        refine zz_get C d_Mo_takeBounds_41 zf_Mo_82 ((hR _).trans rfl) rfl ?_
        refine zz_iload_n C d_Mo_takeBounds_44 rfl rfl ?_
        refine zz_iload_n C d_Mo_takeBounds_45 rfl rfl ?_
        refine zz_if_ge (tgt := 58) C d_Mo_takeBounds_46 (by decide) (fun c_46 => ?_) (fun c_46 => ?_)
        · exact absurd c_46 (by decide)
        · refine zz_aload_n C d_Mo_takeBounds_49 rfl rfl ?_
          refine zz_get C d_Mo_takeBounds_50 zf_Mo_17 ((hR _).trans rfl) rfl ?_
          refine zz_iload_n C d_Mo_takeBounds_53 rfl rfl ?_
          refine zz_ialdR (j := i) C hR d_Mo_takeBounds_54 (fun _ _ => rfl) rfl (by omega) (by decide) ?_
          refine zz_goto (tgt := 69) C d_Mo_takeBounds_55 (by decide) ?_
          refine zz_iastR (j := i) C hR d_Mo_takeBounds_69 (fun _ _ => rfl) rfl (by omega) (by decide) (fun h hR => ?_)
          refine zz_iinc C d_Mo_takeBounds_70 rfl (nI_inc _) (by decide) rfl ?_
          refine zz_goto (tgt := 2) C d_Mo_takeBounds_73 (by decide) ?_
          exact K h hR
set_option maxRecDepth 100000 in
set_option maxHeartbeats 4000000 in
theorem m_Mo_takeBounds_root {n : Nat} (hn : n ≤ 8) (hN : μ 40 1 = nI n)  : wMet l y_Mo_takeBounds b_Mo_takeBounds 3 none (zR 0) E [.ref (ad 40), .int (-1)] ad al μ pa none (tbF μ (μ 41) (μ 42) n) pa := by
  intro h hR
  refine zMet.of (L := [some (.ref (ad 40)), some (.int (-1)), none]) (by decide +kernel) (Nat.le_of_ble_eq_true rfl) rfl 1 rfl fun X hl C Z => ?_
  refine zz_iconst (v := 0) C d_Mo_takeBounds_0 (by decide) ?_
  refine zz_istore_n C d_Mo_takeBounds_1 rfl (by decide) rfl ?_
  exact lp_Mo_takeBounds_root C Z hn hN  (fun h hR => ⟨rfl, rfl, hR⟩) n 0 rfl (Nat.zero_le _) h (hR.eq (by unfold tbF; rw [cpn_0, cpn_0, va_up_id, va_up_id]) rfl)
set_option maxRecDepth 100000 in
set_option maxHeartbeats 4000000 in
theorem lp_Mo_takeBounds_node {X : zX} {post : Option Value → (Nat → Nat) → zH → Prop} (C : zc X E b_Mo_takeBounds 3 "BranchTreesModel" (zR 0)) (Z : zr X E none 0 0 post) {n : Nat} (hn : n ≤ 8) (hN : μ 40 1 = nI n) {j : Nat} (hj : j < 600) (hpost : ∀ h, zRep E ad al (tbF μ (fun k => μ 60 (8 * j + k)) (fun k => μ 61 (8 * j + k)) n) pa h → post none ad h) :
    ∀ (k i : Nat), n - i = k → i ≤ n → ∀ h, zRep E ad al (tbF μ (fun k => μ 60 (8 * j + k)) (fun k => μ 61 (8 * j + k)) i) pa h → zz X E 3 ad 0 0 2 [some (.ref (ad 40)), some (.int (nI j)), some (.int (nI i))] [] h := by
  intro k
  induction k with
  | zero =>
    intro i hk hin h hR
    have e : i = n := by omega
    subst e
    have hN' : tbF μ (fun k => μ 60 (8 * j + k)) (fun k => μ 61 (8 * j + k)) i 40 1 = nI i := hN
    refine zz_iload_n C d_Mo_takeBounds_2 rfl rfl ?_
    refine zz_aload_n C d_Mo_takeBounds_3 rfl rfl ?_
    refine zz_getV C hR (nI i) _ d_Mo_takeBounds_4 zf_Mo_85 rfl rfl hN' ?_
    refine zz_icmp_ge (tgt := 76) C d_Mo_takeBounds_7 (by decide) (fun c_7 => ?_) (fun c_7 => ?_)
    · refine zz_vret C Z d_Mo_takeBounds_76 ?_
      exact hpost h hR
    · exact absurd (nI_le (Nat.le_refl _) (by omega)) c_7
  | succ k ih =>
    intro i hk hin h hR
    have hlt : i < n := by omega
    have hN' : tbF μ (fun k => μ 60 (8 * j + k)) (fun k => μ 61 (8 * j + k)) i 40 1 = nI n := hN
    have K := ih (i + 1) (by omega) hlt
    have e5 : va_up (va_up (tbF μ (fun k => μ 60 (8 * j + k)) (fun k => μ 61 (8 * j + k)) i) 62 (upd (tbF μ (fun k => μ 60 (8 * j + k)) (fun k => μ 61 (8 * j + k)) i 62) i ((fun k => μ 60 (8 * j + k)) i))) 63 (upd (va_up (tbF μ (fun k => μ 60 (8 * j + k)) (fun k => μ 61 (8 * j + k)) i) 62 (upd (tbF μ (fun k => μ 60 (8 * j + k)) (fun k => μ 61 (8 * j + k)) i 62) i ((fun k => μ 60 (8 * j + k)) i)) 63) i ((fun k => μ 61 (8 * j + k)) i)) = tbF μ (fun k => μ 60 (8 * j + k)) (fun k => μ 61 (8 * j + k)) (i + 1) := by
      have h2 : tbF μ (fun k => μ 60 (8 * j + k)) (fun k => μ 61 (8 * j + k)) i 62 = cpn i (fun k => μ 60 (8 * j + k)) (μ 62) := rfl
      have h3 : va_up (tbF μ (fun k => μ 60 (8 * j + k)) (fun k => μ 61 (8 * j + k)) i) 62 (upd (tbF μ (fun k => μ 60 (8 * j + k)) (fun k => μ 61 (8 * j + k)) i 62) i ((fun k => μ 60 (8 * j + k)) i)) 63 = cpn i (fun k => μ 61 (8 * j + k)) (μ 63) := rfl
      rw [h3, h2, cpn_s, cpn_s]
      unfold tbF
      rw [va_up_com (show (63 : Nat) ≠ 62 by decide), bx_uu, bx_uu]
    rw [← e5] at K
    refine zz_iload_n C d_Mo_takeBounds_2 rfl rfl ?_
    refine zz_aload_n C d_Mo_takeBounds_3 rfl rfl ?_
    refine zz_getV C hR (nI n) _ d_Mo_takeBounds_4 zf_Mo_85 rfl rfl hN' ?_
    refine zz_icmp_ge (tgt := 76) C d_Mo_takeBounds_7 (by decide) (fun c_7 => ?_) (fun c_7 => ?_)
    · exact absurd c_7 (nI_ge hlt (by omega))
    · refine zz_aload_n C d_Mo_takeBounds_10 rfl rfl ?_
      refine zz_get C d_Mo_takeBounds_11 zf_Mo_79 ((hR _).trans rfl) rfl ?_
      refine zz_iload_n C d_Mo_takeBounds_14 rfl rfl ?_
      refine zz_iload_n C d_Mo_takeBounds_15 rfl rfl ?_
      refine zz_if_ge (tgt := 28) C d_Mo_takeBounds_16 (by decide) (fun c_16 => ?_) (fun c_16 => ?_)
      · refine zz_aload_n C d_Mo_takeBounds_28 rfl rfl ?_
        refine zz_get C d_Mo_takeBounds_29 zf_Mo_73 ((hR _).trans rfl) rfl ?_
        refine zz_bipush (v := 8) C d_Mo_takeBounds_32 (by decide) ?_
        refine zz_iload_n C d_Mo_takeBounds_34 rfl rfl ?_
        refine zz_imul C d_Mo_takeBounds_35 ?_
        refine zz_iload_n C d_Mo_takeBounds_36 rfl rfl ?_
        refine zz_iadd C d_Mo_takeBounds_37 ?_
        refine zz_ialdR (j := 8 * j + i) C hR d_Mo_takeBounds_38 (fun _ _ => rfl) (ix8 j i) (by omega) (by decide) ?_
        refine zz_iastR (j := i) C hR d_Mo_takeBounds_39 (fun _ _ => rfl) rfl (by omega) (by decide) (fun h hR => ?_)
        refine zz_aload_n C d_Mo_takeBounds_40 rfl rfl ?_
        refine zz_get C d_Mo_takeBounds_41 zf_Mo_82 ((hR _).trans rfl) rfl ?_
        refine zz_iload_n C d_Mo_takeBounds_44 rfl rfl ?_
        refine zz_iload_n C d_Mo_takeBounds_45 rfl rfl ?_
        refine zz_if_ge (tgt := 58) C d_Mo_takeBounds_46 (by decide) (fun c_46 => ?_) (fun c_46 => ?_)
        · refine zz_aload_n C d_Mo_takeBounds_58 rfl rfl ?_
          refine zz_get C d_Mo_takeBounds_59 zf_Mo_76 ((hR _).trans rfl) rfl ?_
          refine zz_bipush (v := 8) C d_Mo_takeBounds_62 (by decide) ?_
          refine zz_iload_n C d_Mo_takeBounds_64 rfl rfl ?_
          refine zz_imul C d_Mo_takeBounds_65 ?_
          refine zz_iload_n C d_Mo_takeBounds_66 rfl rfl ?_
          refine zz_iadd C d_Mo_takeBounds_67 ?_
          refine zz_ialdR (j := 8 * j + i) C hR d_Mo_takeBounds_68 (fun _ _ => rfl) (ix8 j i) (by omega) (by decide) ?_
          refine zz_iastR (j := i) C hR d_Mo_takeBounds_69 (fun _ _ => rfl) rfl (by omega) (by decide) (fun h hR => ?_)
          refine zz_iinc C d_Mo_takeBounds_70 rfl (nI_inc _) (by decide) rfl ?_
          refine zz_goto (tgt := 2) C d_Mo_takeBounds_73 (by decide) ?_
          exact K h hR
        · exact absurd (nI_pos' (by omega)) c_46
      · exact absurd (nI_pos' (by omega)) c_16
set_option maxRecDepth 100000 in
set_option maxHeartbeats 4000000 in
theorem m_Mo_takeBounds {n : Nat} (hn : n ≤ 8) (hN : μ 40 1 = nI n) {j : Nat} (hj : j < 600) : wMet l y_Mo_takeBounds b_Mo_takeBounds 3 none (zR 0) E [.ref (ad 40), .int (nI j)] ad al μ pa none (tbF μ (fun k => μ 60 (8 * j + k)) (fun k => μ 61 (8 * j + k)) n) pa := by
  intro h hR
  refine zMet.of (L := [some (.ref (ad 40)), some (.int (nI j)), none]) (by decide +kernel) (Nat.le_of_ble_eq_true rfl) rfl 1 rfl fun X hl C Z => ?_
  refine zz_iconst (v := 0) C d_Mo_takeBounds_0 (by decide) ?_
  refine zz_istore_n C d_Mo_takeBounds_1 rfl (by decide) rfl ?_
  exact lp_Mo_takeBounds_node C Z hn hN hj (fun h hR => ⟨rfl, rfl, hR⟩) n 0 rfl (Nat.zero_le _) h (hR.eq (by unfold tbF; rw [cpn_0, cpn_0, va_up_id, va_up_id]) rfl)
end MODEL
