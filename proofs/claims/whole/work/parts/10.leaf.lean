/-! LEAVES of the class: pure words, then contracts -/
def hasN (x n : Int32) : Int32 := if x < 0 then 0 else if n ≤ x then 0 else 1
def inW (v lim : Int32) : Int32 := if v < -lim then 0 else if lim < v then 0 else 1
def bindsF (sense sg : Int32) : Int32 := if sense = 2 then 1 else if sg ≤ 0 then (if ¬ sense = 1 then 0 else 1) else (if ¬ sense = 0 then 0 else 1)
def nabF (fnd low x : Int32) : Int32 := if fnd = 0 then 0 else if x < low then 0 else 1
def prcF (a : Int64) (t : Int32) : Int32 := if t ≤ 0 then 0 else (16 * a / t.toInt64).toInt32
def minF (x y : Int32) : Int32 := if y < x then y else x
def maxF (x y : Int32) : Int32 := if x < y then y else x
def absF (x : Int32) : Int32 := if 0 ≤ x then x else -x
def fdF (x y : Int32) : Int32 := if 0 ≤ x ^^^ y then x / y else if x / y * y = x then x / y else x / y - 1
def sumF (f v : Nat → Int32) : Nat → Int32
  | 0 => 0
  | n + 1 => sumF f v n + f n * v n
/-- the least sum of sg times factors, times l or u -/
def bl (lo hi f : Nat → Int32) (sg : Int32) : Nat → Int32
  | 0 => 0
  | n + 1 => bl lo hi f sg n + (sg * f n) * (if sg * f n ≤ 0 then hi n else lo n)
/-- the first i places of f, then g -/
def cpn {α : Type} (i : Nat) (f g : Nat → α) : Nat → α := fun j => if j < i then f j else g j
theorem cpn_0 {α : Type} (f g : Nat → α) : cpn 0 f g = g := by funext j; simp [cpn]
theorem cpn_s (i : Nat) (f g : Nat → Int32) : upd (cpn i f g) i (f i) = cpn (i + 1) f g := by
  funext j
  by_cases e : j = i
  · subst e; simp [upd, cpn]
  · by_cases q : j < i
    · simp [upd, cpn, e, q, Nat.lt_succ_of_lt q]
    · simp [upd, cpn, e, q, show ¬ j < i + 1 by omega]
theorem cpn_sL (i : Nat) (f g : Nat → Int64) : vp_updL (cpn i f g) i (f i) = cpn (i + 1) f g := by
  funext j
  by_cases e : j = i
  · subst e; simp [vp_updL, cpn]
  · by_cases q : j < i
    · simp [vp_updL, cpn, e, q, Nat.lt_succ_of_lt q]
    · simp [vp_updL, cpn, e, q, show ¬ j < i + 1 by omega]
theorem va_up_com {α : Type} {f : Nat → α} {a b : Nat} {x y : α} (h : a ≠ b) : va_up (va_up f a x) b y = va_up (va_up f b y) a x := by
  funext j
  by_cases e : j = a
  · subst e; rw [va_up_ne _ _ h, va_up_self, va_up_self]
  · by_cases e2 : j = b
    · subst e2; rw [va_up_self, va_up_ne _ _ e, va_up_self]
    · rw [va_up_ne _ _ e2, va_up_ne _ _ e, va_up_ne _ _ e, va_up_ne _ _ e2]
theorem va_up_id {α : Type} (f : Nat → α) (a : Nat) : va_up f a (f a) = f := by
  funext j
  by_cases e : j = a
  · subst e; rw [va_up_self]
  · rw [va_up_ne _ _ e]
theorem zRep.eq {E : zE} {ad : Nat → Nat} {al : Nat} {μ μ' : Nat → Nat → Int32} {pa pa' : Nat → Nat → Int64} {h : zH} (hR : zRep E ad al μ pa h) (e : μ = μ') (e2 : pa = pa') : zRep E ad al μ' pa' h := by
  subst e; subst e2; exact hR
theorem i64_ne {t : Int32} (h : ¬ t ≤ 0) : ¬ t.toInt64 = 0 := by
  intro e
  have h1 : t.toInt64.toInt = (0 : Int64).toInt := by rw [e]
  rw [Int32.toInt_toInt64] at h1
  apply h
  rw [Int32.le_iff_toInt_le, h1]
  decide
theorem ne_m3 {n : Nat} (h : n < 2 ^ 31) : ¬ nI n = -3 := by
  intro e
  have h1 : (nI n).toInt = (-3 : Int32).toInt := by rw [e]
  rw [nI_toInt h] at h1
  have h2 : (-3 : Int32).toInt = -3 := by decide
  omega
theorem ne_m2 {n : Nat} (h : n < 2 ^ 31) : ¬ nI n = -2 := by
  intro e
  have h1 : (nI n).toInt = (-2 : Int32).toInt := by rw [e]
  rw [nI_toInt h] at h1
  have h2 : (-2 : Int32).toInt = -2 := by decide
  omega
section LEAF
variable {l : Launch} {E : zE} {ad : Nat → Nat} {al : Nat} {μ : Nat → Nat → Int32} {pa : Nat → Nat → Int64}
set_option maxRecDepth 100000 in
set_option maxHeartbeats 4000000 in
theorem m_Pb_hasName {x : Int32} : rMet l y_Pb_hasName b_Pb_hasName 2 (some .boolean) (zR 0) E [.ref (ad 1), .int x] ad al μ pa (.int (hasN x (μ 1 7))) := by
  intro h hR
  refine zMet.of (L := [some (.ref (ad 1)), some (.int x)]) (by decide +kernel) (Nat.le_of_ble_eq_true rfl) rfl 0 rfl fun X hl C Z => ?_
  refine zz_iload_n C d_Pb_hasName_0 rfl rfl ?_
  refine zz_if_lt (tgt := 16) C d_Pb_hasName_1 (by decide) (fun c_1 => ?_) (fun c_1 => ?_)
  · refine zz_iconst (v := 0) C d_Pb_hasName_16 (by decide) ?_
    refine zz_zret C Z d_Pb_hasName_17 (by first | rfl | decide | assumption) ?_
    exact ⟨by simp [hasN, c_1], rfl, rfl⟩
  · refine zz_iload_n C d_Pb_hasName_4 rfl rfl ?_
    refine zz_aload_n C d_Pb_hasName_5 rfl rfl ?_
    refine zz_get C d_Pb_hasName_6 zf_Pb_36 ((hR _).trans rfl) rfl ?_
    refine zz_icmp_ge (tgt := 16) C d_Pb_hasName_9 (by decide) (fun c_9 => ?_) (fun c_9 => ?_)
    · refine zz_iconst (v := 0) C d_Pb_hasName_16 (by decide) ?_
      refine zz_zret C Z d_Pb_hasName_17 (by first | rfl | decide | assumption) ?_
      exact ⟨by simp [hasN, c_1, c_9], rfl, rfl⟩
    · refine zz_iconst (v := 1) C d_Pb_hasName_12 (by decide) ?_
      refine zz_goto (tgt := 17) C d_Pb_hasName_13 (by decide) ?_
      refine zz_zret C Z d_Pb_hasName_17 (by first | rfl | decide | assumption) ?_
      exact ⟨by simp [hasN, c_1, c_9], rfl, rfl⟩
set_option maxRecDepth 100000 in
set_option maxHeartbeats 4000000 in
theorem m_Pb_hasRow {x : Int32} : rMet l y_Pb_hasRow b_Pb_hasRow 2 (some .boolean) (zR 0) E [.ref (ad 1), .int x] ad al μ pa (.int (hasN x (μ 1 8))) := by
  intro h hR
  refine zMet.of (L := [some (.ref (ad 1)), some (.int x)]) (by decide +kernel) (Nat.le_of_ble_eq_true rfl) rfl 0 rfl fun X hl C Z => ?_
  refine zz_iload_n C d_Pb_hasRow_0 rfl rfl ?_
  refine zz_if_lt (tgt := 16) C d_Pb_hasRow_1 (by decide) (fun c_1 => ?_) (fun c_1 => ?_)
  · refine zz_iconst (v := 0) C d_Pb_hasRow_16 (by decide) ?_
    refine zz_zret C Z d_Pb_hasRow_17 (by first | rfl | decide | assumption) ?_
    exact ⟨by simp [hasN, c_1], rfl, rfl⟩
  · refine zz_iload_n C d_Pb_hasRow_4 rfl rfl ?_
    refine zz_aload_n C d_Pb_hasRow_5 rfl rfl ?_
    refine zz_get C d_Pb_hasRow_6 zf_Pb_40 ((hR _).trans rfl) rfl ?_
    refine zz_icmp_ge (tgt := 16) C d_Pb_hasRow_9 (by decide) (fun c_9 => ?_) (fun c_9 => ?_)
    · refine zz_iconst (v := 0) C d_Pb_hasRow_16 (by decide) ?_
      refine zz_zret C Z d_Pb_hasRow_17 (by first | rfl | decide | assumption) ?_
      exact ⟨by simp [hasN, c_1, c_9], rfl, rfl⟩
    · refine zz_iconst (v := 1) C d_Pb_hasRow_12 (by decide) ?_
      refine zz_goto (tgt := 17) C d_Pb_hasRow_13 (by decide) ?_
      refine zz_zret C Z d_Pb_hasRow_17 (by first | rfl | decide | assumption) ?_
      exact ⟨by simp [hasN, c_1, c_9], rfl, rfl⟩
set_option maxRecDepth 100000 in
set_option maxHeartbeats 4000000 in
theorem m_BT_isWithin {x y : Int32} : rMet l y_BT_isWithin b_BT_isWithin 2 (some .boolean) (zR 0) E [.int x, .int y] ad al μ pa (.int (inW x y)) := by
  intro h hR
  refine zMet.of (L := [some (.int x), some (.int y)]) (by decide +kernel) (Nat.le_of_ble_eq_true rfl) rfl 0 rfl fun X hl C Z => ?_
  refine zz_iload_n C d_BT_isWithin_0 rfl rfl ?_
  refine zz_iload_n C d_BT_isWithin_1 rfl rfl ?_
  refine zz_ineg C d_BT_isWithin_2 ?_
  refine zz_icmp_lt (tgt := 15) C d_BT_isWithin_3 (by decide) (fun c_3 => ?_) (fun c_3 => ?_)
  · refine zz_iconst (v := 0) C d_BT_isWithin_15 (by decide) ?_
    refine zz_zret C Z d_BT_isWithin_16 (by first | rfl | decide | assumption) ?_
    exact ⟨by simp [inW, c_3], rfl, rfl⟩
  · refine zz_iload_n C d_BT_isWithin_6 rfl rfl ?_
    refine zz_iload_n C d_BT_isWithin_7 rfl rfl ?_
    refine zz_icmp_gt (tgt := 15) C d_BT_isWithin_8 (by decide) (fun c_8 => ?_) (fun c_8 => ?_)
    · refine zz_iconst (v := 0) C d_BT_isWithin_15 (by decide) ?_
      refine zz_zret C Z d_BT_isWithin_16 (by first | rfl | decide | assumption) ?_
      exact ⟨by simp [inW, c_3, c_8], rfl, rfl⟩
    · refine zz_iconst (v := 1) C d_BT_isWithin_11 (by decide) ?_
      refine zz_goto (tgt := 16) C d_BT_isWithin_12 (by decide) ?_
      refine zz_zret C Z d_BT_isWithin_16 (by first | rfl | decide | assumption) ?_
      exact ⟨by simp [inW, c_3, c_8], rfl, rfl⟩
set_option maxRecDepth 100000 in
set_option maxHeartbeats 4000000 in
theorem m_Be_isNotAbove {x : Int32} : rMet l y_Be_isNotAbove b_Be_isNotAbove 2 (some .boolean) (zR 0) E [.ref (ad 9), .int x] ad al μ pa (.int (nabF (μ 9 1) (μ 9 2) x)) := by
  intro h hR
  refine zMet.of (L := [some (.ref (ad 9)), some (.int x)]) (by decide +kernel) (Nat.le_of_ble_eq_true rfl) rfl 0 rfl fun X hl C Z => ?_
  refine zz_aload_n C d_Be_isNotAbove_0 rfl rfl ?_
  refine zz_get C d_Be_isNotAbove_1 zf_Be_15 ((hR _).trans rfl) rfl ?_
  refine zz_if_eq (tgt := 19) C d_Be_isNotAbove_4 (by decide) (fun c_4 => ?_) (fun c_4 => ?_)
  · refine zz_iconst (v := 0) C d_Be_isNotAbove_19 (by decide) ?_
    refine zz_zret C Z d_Be_isNotAbove_20 (by first | rfl | decide | assumption) ?_
    exact ⟨by simp [nabF, c_4], rfl, rfl⟩
  · refine zz_aload_n C d_Be_isNotAbove_7 rfl rfl ?_
    refine zz_get C d_Be_isNotAbove_8 zf_Be_19 ((hR _).trans rfl) rfl ?_
    refine zz_iload_n C d_Be_isNotAbove_11 rfl rfl ?_
    refine zz_icmp_gt (tgt := 19) C d_Be_isNotAbove_12 (by decide) (fun c_12 => ?_) (fun c_12 => ?_)
    · refine zz_iconst (v := 0) C d_Be_isNotAbove_19 (by decide) ?_
      refine zz_zret C Z d_Be_isNotAbove_20 (by first | rfl | decide | assumption) ?_
      exact ⟨by simp [nabF, c_4, c_12], rfl, rfl⟩
    · refine zz_iconst (v := 1) C d_Be_isNotAbove_15 (by decide) ?_
      refine zz_goto (tgt := 20) C d_Be_isNotAbove_16 (by decide) ?_
      refine zz_zret C Z d_Be_isNotAbove_20 (by first | rfl | decide | assumption) ?_
      exact ⟨by simp [nabF, c_4, c_12], rfl, rfl⟩
set_option maxRecDepth 100000 in
set_option maxHeartbeats 4000000 in
theorem m_Pb_binds {r : Nat} {sg : Int32} (hr : r < 16) : rMet l y_Pb_binds b_Pb_binds 3 (some .boolean) (zR 0) E [.ref (ad 1), .int (nI r), .int sg] ad al μ pa (.int (bindsF (μ 5 r) sg)) := by
  intro h hR
  refine zMet.of (L := [some (.ref (ad 1)), some (.int (nI r)), some (.int sg)]) (by decide +kernel) (Nat.le_of_ble_eq_true rfl) rfl 0 rfl fun X hl C Z => ?_
  refine zz_aload_n C d_Pb_binds_0 rfl rfl ?_
  refine zz_get C d_Pb_binds_1 zf_Pb_21 ((hR _).trans rfl) rfl ?_
  refine zz_iload_n C d_Pb_binds_4 rfl rfl ?_
  refine zz_ialdR (j := r) C hR d_Pb_binds_5 (fun _ _ => rfl) rfl hr (by decide) ?_
  refine zz_iconst (v := 2) C d_Pb_binds_6 (by decide) ?_
  refine zz_icmp_eq (tgt := 28) C d_Pb_binds_7 (by decide) (fun c_7 => ?_) (fun c_7 => ?_)
  · refine zz_iconst (v := 1) C d_Pb_binds_28 (by decide) ?_
    refine zz_goto (tgt := 33) C d_Pb_binds_29 (by decide) ?_
    refine zz_zret C Z d_Pb_binds_33 (by first | rfl | decide | assumption) ?_
    exact ⟨by simp [bindsF, c_7], rfl, rfl⟩
  · refine zz_aload_n C d_Pb_binds_10 rfl rfl ?_
    refine zz_get C d_Pb_binds_11 zf_Pb_21 ((hR _).trans rfl) rfl ?_
    refine zz_iload_n C d_Pb_binds_14 rfl rfl ?_
    refine zz_ialdR (j := r) C hR d_Pb_binds_15 (fun _ _ => rfl) rfl hr (by decide) ?_
    refine zz_iload_n C d_Pb_binds_16 rfl rfl ?_
    refine zz_if_le (tgt := 24) C d_Pb_binds_17 (by decide) (fun c_17 => ?_) (fun c_17 => ?_)
    · refine zz_iconst (v := 1) C d_Pb_binds_24 (by decide) ?_
      refine zz_icmp_ne (tgt := 32) C d_Pb_binds_25 (by decide) (fun c_25 => ?_) (fun c_25 => ?_)
      · refine zz_iconst (v := 0) C d_Pb_binds_32 (by decide) ?_
        refine zz_zret C Z d_Pb_binds_33 (by first | rfl | decide | assumption) ?_
        exact ⟨by simp [bindsF, c_7, c_17, c_25], rfl, rfl⟩
      · refine zz_iconst (v := 1) C d_Pb_binds_28 (by decide) ?_
        refine zz_goto (tgt := 33) C d_Pb_binds_29 (by decide) ?_
        refine zz_zret C Z d_Pb_binds_33 (by first | rfl | decide | assumption) ?_
        exact ⟨by simp [bindsF, c_7, c_17, c_25], rfl, rfl⟩
    · refine zz_iconst (v := 0) C d_Pb_binds_20 (by decide) ?_
      refine zz_goto (tgt := 25) C d_Pb_binds_21 (by decide) ?_
      refine zz_icmp_ne (tgt := 32) C d_Pb_binds_25 (by decide) (fun c_25 => ?_) (fun c_25 => ?_)
      · refine zz_iconst (v := 0) C d_Pb_binds_32 (by decide) ?_
        refine zz_zret C Z d_Pb_binds_33 (by first | rfl | decide | assumption) ?_
        exact ⟨by simp [bindsF, c_7, c_17, c_25], rfl, rfl⟩
      · refine zz_iconst (v := 1) C d_Pb_binds_28 (by decide) ?_
        refine zz_goto (tgt := 33) C d_Pb_binds_29 (by decide) ?_
        refine zz_zret C Z d_Pb_binds_33 (by first | rfl | decide | assumption) ?_
        exact ⟨by simp [bindsF, c_7, c_17, c_25], rfl, rfl⟩
set_option maxRecDepth 100000 in
set_option maxHeartbeats 4000000 in
theorem m_Pr_priceOf {j : Nat} (hj : j < 8) : rMet l y_Pr_priceOf b_Pr_priceOf 2 (some .int) (zR 0) E [.ref (ad 11), .int (nI j)] ad al μ pa (.int (prcF (pa 12 j) (μ 13 j))) := by
  intro h hR
  refine zMet.of (L := [some (.ref (ad 11)), some (.int (nI j))]) (by decide +kernel) (Nat.le_of_ble_eq_true rfl) rfl 0 rfl fun X hl C Z => ?_
  refine zz_aload_n C d_Pr_priceOf_0 rfl rfl ?_
  refine zz_get C d_Pr_priceOf_1 zf_Pr_15 ((hR _).trans rfl) rfl ?_
  refine zz_iload_n C d_Pr_priceOf_4 rfl rfl ?_
  refine zz_ialdR (j := j) C hR d_Pr_priceOf_5 (fun _ _ => rfl) rfl hj (by decide) ?_
  refine zz_if_le (tgt := 31) C d_Pr_priceOf_6 (by decide) (fun c_6 => ?_) (fun c_6 => ?_)
  · refine zz_iconst (v := 0) C d_Pr_priceOf_31 (by decide) ?_
    refine zz_iret C Z d_Pr_priceOf_32 ?_
    exact ⟨by simp [prcF, c_6], rfl, rfl⟩
  · refine zz_ldc2 C _ d_Pr_priceOf_9 co_Pr_19 ?_
    refine zz_aload_n C d_Pr_priceOf_12 rfl rfl ?_
    refine zz_get C d_Pr_priceOf_13 zf_Pr_9 ((hR _).trans rfl) rfl ?_
    refine zz_iload_n C d_Pr_priceOf_16 rfl rfl ?_
    refine zz_laldR (j := j) C hR d_Pr_priceOf_17 (fun _ _ => rfl) rfl hj (by decide) ?_
    refine zz_lmul C d_Pr_priceOf_18 ?_
    refine zz_aload_n C d_Pr_priceOf_19 rfl rfl ?_
    refine zz_get C d_Pr_priceOf_20 zf_Pr_15 ((hR _).trans rfl) rfl ?_
    refine zz_iload_n C d_Pr_priceOf_23 rfl rfl ?_
    refine zz_ialdR (j := j) C hR d_Pr_priceOf_24 (fun _ _ => rfl) rfl hj (by decide) ?_
    refine zz_i2l C d_Pr_priceOf_25 ?_
    refine zz_ldiv C d_Pr_priceOf_26 (i64_ne c_6) ?_
    refine zz_l2i C d_Pr_priceOf_27 ?_
    refine zz_goto (tgt := 32) C d_Pr_priceOf_28 (by decide) ?_
    refine zz_iret C Z d_Pr_priceOf_32 ?_
    exact ⟨by simp [prcF, c_6], rfl, rfl⟩
set_option maxRecDepth 100000 in
set_option maxHeartbeats 4000000 in
theorem m_Tr_hasRoomForTwo  : rMet l y_Tr_hasRoomForTwo b_Tr_hasRoomForTwo 1 (some .boolean) (zR 0) E [.ref (ad 14)] ad al μ pa (.int (if 600 < μ 14 1 + 2 then 0 else 1)) := by
  intro h hR
  refine zMet.of (L := [some (.ref (ad 14))]) (by decide +kernel) (Nat.le_of_ble_eq_true rfl) rfl 0 rfl fun X hl C Z => ?_
  refine zz_aload_n C d_Tr_hasRoomForTwo_0 rfl rfl ?_
  refine zz_get C d_Tr_hasRoomForTwo_1 zf_Tr_17 ((hR _).trans rfl) rfl ?_
  refine zz_iconst (v := 2) C d_Tr_hasRoomForTwo_4 (by decide) ?_
  refine zz_iadd C d_Tr_hasRoomForTwo_5 ?_
  refine zz_sipush (v := 600) C d_Tr_hasRoomForTwo_6 (by decide) ?_
  refine zz_icmp_gt (tgt := 16) C d_Tr_hasRoomForTwo_9 (by decide) (fun c_9 => ?_) (fun c_9 => ?_)
  · refine zz_iconst (v := 0) C d_Tr_hasRoomForTwo_16 (by decide) ?_
    refine zz_zret C Z d_Tr_hasRoomForTwo_17 (by first | rfl | decide | assumption) ?_
    exact ⟨by simp [c_9], rfl, rfl⟩
  · refine zz_iconst (v := 1) C d_Tr_hasRoomForTwo_12 (by decide) ?_
    refine zz_goto (tgt := 17) C d_Tr_hasRoomForTwo_13 (by decide) ?_
    refine zz_zret C Z d_Tr_hasRoomForTwo_17 (by first | rfl | decide | assumption) ?_
    exact ⟨by simp [c_9], rfl, rfl⟩
set_option maxRecDepth 100000 in
set_option maxHeartbeats 4000000 in
theorem m_Ma_min {x y : Int32} : rMet l y_Ma_min b_Ma_min 2 (some .int) (zR 0) E [.int x, .int y] ad al μ pa (.int (minF x y)) := by
  intro h hR
  refine zMet.of (L := [some (.int x), some (.int y)]) (by decide +kernel) (Nat.le_of_ble_eq_true rfl) rfl 0 rfl fun X hl C Z => ?_
  refine zz_iload_n C d_Ma_min_0 rfl rfl ?_
  refine zz_iload_n C d_Ma_min_1 rfl rfl ?_
  refine zz_icmp_gt (tgt := 9) C d_Ma_min_2 (by decide) (fun c_2 => ?_) (fun c_2 => ?_)
  · refine zz_iload_n C d_Ma_min_9 rfl rfl ?_
    refine zz_iret C Z d_Ma_min_10 ?_
    exact ⟨by simp [minF, c_2], rfl, rfl⟩
  · refine zz_iload_n C d_Ma_min_5 rfl rfl ?_
    refine zz_goto (tgt := 10) C d_Ma_min_6 (by decide) ?_
    refine zz_iret C Z d_Ma_min_10 ?_
    exact ⟨by simp [minF, c_2], rfl, rfl⟩
set_option maxRecDepth 100000 in
set_option maxHeartbeats 4000000 in
theorem m_Ma_max {x y : Int32} : rMet l y_Ma_max b_Ma_max 2 (some .int) (zR 0) E [.int x, .int y] ad al μ pa (.int (maxF x y)) := by
  intro h hR
  refine zMet.of (L := [some (.int x), some (.int y)]) (by decide +kernel) (Nat.le_of_ble_eq_true rfl) rfl 0 rfl fun X hl C Z => ?_
  refine zz_iload_n C d_Ma_max_0 rfl rfl ?_
  refine zz_iload_n C d_Ma_max_1 rfl rfl ?_
  refine zz_icmp_lt (tgt := 9) C d_Ma_max_2 (by decide) (fun c_2 => ?_) (fun c_2 => ?_)
  · refine zz_iload_n C d_Ma_max_9 rfl rfl ?_
    refine zz_iret C Z d_Ma_max_10 ?_
    exact ⟨by simp [maxF, c_2], rfl, rfl⟩
  · refine zz_iload_n C d_Ma_max_5 rfl rfl ?_
    refine zz_goto (tgt := 10) C d_Ma_max_6 (by decide) ?_
    refine zz_iret C Z d_Ma_max_10 ?_
    exact ⟨by simp [maxF, c_2], rfl, rfl⟩
set_option maxRecDepth 100000 in
set_option maxHeartbeats 4000000 in
theorem m_Ma_abs {x : Int32} : rMet l y_Ma_abs b_Ma_abs 1 (some .int) (zR 0) E [.int x] ad al μ pa (.int (absF x)) := by
  intro h hR
  refine zMet.of (L := [some (.int x)]) (by decide +kernel) (Nat.le_of_ble_eq_true rfl) rfl 0 rfl fun X hl C Z => ?_
  refine zz_iload_n C d_Ma_abs_0 rfl rfl ?_
  refine zz_if_ge (tgt := 9) C d_Ma_abs_1 (by decide) (fun c_1 => ?_) (fun c_1 => ?_)
  · refine zz_iload_n C d_Ma_abs_9 rfl rfl ?_
    refine zz_iret C Z d_Ma_abs_10 ?_
    exact ⟨by simp [absF, c_1], rfl, rfl⟩
  · refine zz_iload_n C d_Ma_abs_4 rfl rfl ?_
    refine zz_ineg C d_Ma_abs_5 ?_
    refine zz_goto (tgt := 10) C d_Ma_abs_6 (by decide) ?_
    refine zz_iret C Z d_Ma_abs_10 ?_
    exact ⟨by simp [absF, c_1], rfl, rfl⟩
set_option maxRecDepth 100000 in
set_option maxHeartbeats 4000000 in
theorem m_Ma_floorDiv {x y : Int32} (hy : ¬ y = 0) : rMet l y_Ma_floorDiv b_Ma_floorDiv 3 (some .int) (zR 0) E [.int x, .int y] ad al μ pa (.int (fdF x y)) := by
  intro h hR
  refine zMet.of (L := [some (.int x), some (.int y), none]) (by decide +kernel) (Nat.le_of_ble_eq_true rfl) rfl 1 rfl fun X hl C Z => ?_
  refine zz_iload_n C d_Ma_floorDiv_0 rfl rfl ?_
  refine zz_iload_n C d_Ma_floorDiv_1 rfl rfl ?_
  refine zz_idiv C d_Ma_floorDiv_2 hy ?_
  refine zz_istore_n C d_Ma_floorDiv_3 rfl (by decide) rfl ?_
  refine zz_iload_n C d_Ma_floorDiv_4 rfl rfl ?_
  refine zz_iload_n C d_Ma_floorDiv_5 rfl rfl ?_
  refine zz_ixor C d_Ma_floorDiv_6 ?_
  refine zz_if_ge (tgt := 21) C d_Ma_floorDiv_7 (by decide) (fun c_7 => ?_) (fun c_7 => ?_)
  · refine zz_iload_n C d_Ma_floorDiv_21 rfl rfl ?_
    refine zz_iret C Z d_Ma_floorDiv_22 ?_
    exact ⟨by simp [fdF, c_7], rfl, rfl⟩
  · refine zz_iload_n C d_Ma_floorDiv_10 rfl rfl ?_
    refine zz_iload_n C d_Ma_floorDiv_11 rfl rfl ?_
    refine zz_imul C d_Ma_floorDiv_12 ?_
    refine zz_iload_n C d_Ma_floorDiv_13 rfl rfl ?_
    refine zz_icmp_eq (tgt := 21) C d_Ma_floorDiv_14 (by decide) (fun c_14 => ?_) (fun c_14 => ?_)
    · refine zz_iload_n C d_Ma_floorDiv_21 rfl rfl ?_
      refine zz_iret C Z d_Ma_floorDiv_22 ?_
      exact ⟨by simp [fdF, c_7, c_14], rfl, rfl⟩
    · refine zz_iload_n C d_Ma_floorDiv_17 rfl rfl ?_
      refine zz_iconst (v := 1) C d_Ma_floorDiv_18 (by decide) ?_
      refine zz_isub C d_Ma_floorDiv_19 ?_
      refine zz_iret C Z d_Ma_floorDiv_20 ?_
      exact ⟨by simp [fdF, c_7, c_14], rfl, rfl⟩
set_option maxRecDepth 100000 in
set_option maxHeartbeats 4000000 in
theorem lp_Bx_leastOf {X : zX} {h : zH} {post : Option Value → (Nat → Nat) → zH → Prop} (C : zc X E b_Bx_leastOf 7 "BranchTrees$Box" (zR 0)) (Z : zr X E (some .int) 0 0 post) {kb kf kl kh n : Nat} {sg : Int32} (hn : n ≤ 8) (hB : isB E ad al kb kl kh) (hA : isA E ad al kf 8) (hL : isA E ad al kl 8) (hH : isA E ad al kh 8) (hR : zRep E ad al μ pa h) (hpost : post (some (.int (bl (μ kl) (μ kh) (μ kf) sg n))) ad h) :
    ∀ (k i : Nat) (w : Option Value), n - i = k → i ≤ n → zz X E 7 ad 0 0 6 [some (.ref (ad kb)), some (.ref (ad kf)), some (.int sg), some (.int (nI n)), some (.int (bl (μ kl) (μ kh) (μ kf) sg i)), some (.int (nI i)), w] [] h := by
  intro k
  induction k with
  | zero =>
    intro i w hk hin
    have e : i = n := by omega
    subst e
    refine zz_iload C d_Bx_leastOf_6 rfl ?_
    refine zz_iload_n C d_Bx_leastOf_8 rfl rfl ?_
    refine zz_icmp_ge (tgt := 56) C d_Bx_leastOf_9 (by decide) (fun c_9 => ?_) (fun c_9 => ?_)
    · refine zz_iload C d_Bx_leastOf_56 rfl ?_
      refine zz_iret C Z d_Bx_leastOf_58 ?_
      exact hpost
    · exact absurd (nI_le (Nat.le_refl _) (by omega)) c_9
  | succ k ih =>
    intro i w hk hin
    have hlt : i < n := by omega
    refine zz_iload C d_Bx_leastOf_6 rfl ?_
    refine zz_iload_n C d_Bx_leastOf_8 rfl rfl ?_
    refine zz_icmp_ge (tgt := 56) C d_Bx_leastOf_9 (by decide) (fun c_9 => ?_) (fun c_9 => ?_)
    · exact absurd c_9 (nI_ge hlt (by omega))
    · refine zz_iload_n C d_Bx_leastOf_12 rfl rfl ?_
      refine zz_aload_n C d_Bx_leastOf_13 rfl rfl ?_
      refine zz_iload C d_Bx_leastOf_14 rfl ?_
      refine zz_ialdR (j := i) C hR d_Bx_leastOf_16 hA rfl (by omega) (by decide) ?_
      refine zz_imul C d_Bx_leastOf_17 ?_
      refine zz_istore C d_Bx_leastOf_18 (by decide) rfl ?_
      refine zz_iload C d_Bx_leastOf_20 rfl ?_
      refine zz_iload C d_Bx_leastOf_22 rfl ?_
      refine zz_iload C d_Bx_leastOf_24 rfl ?_
      refine zz_if_le (tgt := 39) C d_Bx_leastOf_26 (by decide) (fun c_26 => ?_) (fun c_26 => ?_)
      · refine zz_aload_n C d_Bx_leastOf_39 rfl rfl ?_
        refine zz_get C d_Bx_leastOf_40 zf_Bx_15 ((hR _).trans (hB _ _)) rfl ?_
        refine zz_iload C d_Bx_leastOf_43 rfl ?_
        refine zz_ialdR (j := i) C hR d_Bx_leastOf_45 hH rfl (by omega) (by decide) ?_
        refine zz_imul C d_Bx_leastOf_46 ?_
        refine zz_iadd C d_Bx_leastOf_47 ?_
        refine zz_istore C d_Bx_leastOf_48 (by decide) rfl ?_
        refine zz_iinc C d_Bx_leastOf_50 rfl (nI_inc _) (by decide) rfl ?_
        refine zz_goto (tgt := 6) C d_Bx_leastOf_53 (by decide) ?_
        have K := ih (i + 1) (some (.int (sg * μ kf i))) (by omega) hlt
        simp only [bl, c_26, if_true, if_false] at K
        exact K
      · refine zz_aload_n C d_Bx_leastOf_29 rfl rfl ?_
        refine zz_get C d_Bx_leastOf_30 zf_Bx_9 ((hR _).trans (hB _ _)) rfl ?_
        refine zz_iload C d_Bx_leastOf_33 rfl ?_
        refine zz_ialdR (j := i) C hR d_Bx_leastOf_35 hL rfl (by omega) (by decide) ?_
        refine zz_goto (tgt := 46) C d_Bx_leastOf_36 (by decide) ?_
        refine zz_imul C d_Bx_leastOf_46 ?_
        refine zz_iadd C d_Bx_leastOf_47 ?_
        refine zz_istore C d_Bx_leastOf_48 (by decide) rfl ?_
        refine zz_iinc C d_Bx_leastOf_50 rfl (nI_inc _) (by decide) rfl ?_
        refine zz_goto (tgt := 6) C d_Bx_leastOf_53 (by decide) ?_
        have K := ih (i + 1) (some (.int (sg * μ kf i))) (by omega) hlt
        simp only [bl, c_26, if_true, if_false] at K
        exact K
set_option maxRecDepth 100000 in
set_option maxHeartbeats 4000000 in
theorem m_Bx_leastOf {kb kf kl kh n : Nat} {sg : Int32} (hn : n ≤ 8) (hB : isB E ad al kb kl kh) (hA : isA E ad al kf 8) (hL : isA E ad al kl 8) (hH : isA E ad al kh 8) : rMet l y_Bx_leastOf b_Bx_leastOf 7 (some .int) (zR 0) E [.ref (ad kb), .ref (ad kf), .int sg, .int (nI n)] ad al μ pa (.int (bl (μ kl) (μ kh) (μ kf) sg n)) := by
  intro h hR
  refine zMet.of (L := [some (.ref (ad kb)), some (.ref (ad kf)), some (.int sg), some (.int (nI n)), none, none, none]) (by decide +kernel) (Nat.le_of_ble_eq_true rfl) rfl 3 rfl fun X hl C Z => ?_
  refine zz_iconst (v := 0) C d_Bx_leastOf_0 (by decide) ?_
  refine zz_istore C d_Bx_leastOf_1 (by decide) rfl ?_
  refine zz_iconst (v := 0) C d_Bx_leastOf_3 (by decide) ?_
  refine zz_istore C d_Bx_leastOf_4 (by decide) rfl ?_
  exact lp_Bx_leastOf C Z hn hB hA hL hH hR ⟨rfl, rfl, rfl⟩ n 0 _ rfl (Nat.zero_le n)
set_option maxRecDepth 100000 in
set_option maxHeartbeats 4000000 in
theorem lp_Pb_sumOf {X : zX} {h : zH} {post : Option Value → (Nat → Nat) → zH → Prop} (C : zc X E b_Pb_sumOf 5 "BranchTrees$Problem" (zR 0)) (Z : zr X E (some .int) 0 0 post) {kf kv n : Nat} (hn : n ≤ 8) (hN : μ 1 7 = nI n) (hA : isA E ad al kf 8) (hV : isA E ad al kv 8) (hR : zRep E ad al μ pa h) (hpost : post (some (.int (sumF (μ kf) (μ kv) n))) ad h) :
    ∀ (k i : Nat), n - i = k → i ≤ n → zz X E 5 ad 0 0 5 [some (.ref (ad 1)), some (.ref (ad kf)), some (.ref (ad kv)), some (.int (sumF (μ kf) (μ kv) i)), some (.int (nI i))] [] h := by
  intro k
  induction k with
  | zero =>
    intro i hk hin
    have e : i = n := by omega
    subst e
    refine zz_iload C d_Pb_sumOf_5 rfl ?_
    refine zz_aload_n C d_Pb_sumOf_7 rfl rfl ?_
    refine zz_get C d_Pb_sumOf_8 zf_Pb_36 ((hR _).trans rfl) rfl ?_
    refine zz_icmp_ge (tgt := 32) C d_Pb_sumOf_11 (by decide) (fun c_11 => ?_) (fun c_11 => ?_)
    · refine zz_iload_n C d_Pb_sumOf_32 rfl rfl ?_
      refine zz_iret C Z d_Pb_sumOf_33 ?_
      exact hpost
    · exact absurd (by rw [hN]; exact nI_le (Nat.le_refl _) (by omega)) c_11
  | succ k ih =>
    intro i hk hin
    have hlt : i < n := by omega
    refine zz_iload C d_Pb_sumOf_5 rfl ?_
    refine zz_aload_n C d_Pb_sumOf_7 rfl rfl ?_
    refine zz_get C d_Pb_sumOf_8 zf_Pb_36 ((hR _).trans rfl) rfl ?_
    refine zz_icmp_ge (tgt := 32) C d_Pb_sumOf_11 (by decide) (fun c_11 => ?_) (fun c_11 => ?_)
    · exact absurd (by rw [hN] at c_11; exact c_11) (nI_ge hlt (by omega))
    · refine zz_iload_n C d_Pb_sumOf_14 rfl rfl ?_
      refine zz_aload_n C d_Pb_sumOf_15 rfl rfl ?_
      refine zz_iload C d_Pb_sumOf_16 rfl ?_
      refine zz_ialdR (j := i) C hR d_Pb_sumOf_18 hA rfl (by omega) (by decide) ?_
      refine zz_aload_n C d_Pb_sumOf_19 rfl rfl ?_
      refine zz_iload C d_Pb_sumOf_20 rfl ?_
      refine zz_ialdR (j := i) C hR d_Pb_sumOf_22 hV rfl (by omega) (by decide) ?_
      refine zz_imul C d_Pb_sumOf_23 ?_
      refine zz_iadd C d_Pb_sumOf_24 ?_
      refine zz_istore_n C d_Pb_sumOf_25 rfl (by decide) rfl ?_
      refine zz_iinc C d_Pb_sumOf_26 rfl (nI_inc _) (by decide) rfl ?_
      refine zz_goto (tgt := 5) C d_Pb_sumOf_29 (by decide) ?_
      exact ih (i + 1) (by omega) hlt
set_option maxRecDepth 100000 in
set_option maxHeartbeats 4000000 in
theorem m_Pb_sumOf {kf kv n : Nat} (hn : n ≤ 8) (hN : μ 1 7 = nI n) (hA : isA E ad al kf 8) (hV : isA E ad al kv 8) : rMet l y_Pb_sumOf b_Pb_sumOf 5 (some .int) (zR 0) E [.ref (ad 1), .ref (ad kf), .ref (ad kv)] ad al μ pa (.int (sumF (μ kf) (μ kv) n)) := by
  intro h hR
  refine zMet.of (L := [some (.ref (ad 1)), some (.ref (ad kf)), some (.ref (ad kv)), none, none]) (by decide +kernel) (Nat.le_of_ble_eq_true rfl) rfl 2 rfl fun X hl C Z => ?_
  refine zz_iconst (v := 0) C d_Pb_sumOf_0 (by decide) ?_
  refine zz_istore_n C d_Pb_sumOf_1 rfl (by decide) rfl ?_
  refine zz_iconst (v := 0) C d_Pb_sumOf_2 (by decide) ?_
  refine zz_istore C d_Pb_sumOf_3 (by decide) rfl ?_
  exact lp_Pb_sumOf C Z hn hN hA hV hR ⟨rfl, rfl, rfl⟩ n 0 rfl (Nat.zero_le n)
set_option maxRecDepth 100000 in
set_option maxHeartbeats 4000000 in
theorem m_Tr_fell : wMet l y_Tr_fell b_Tr_fell 1 none (zR 0) E [.ref (ad 14)] ad al μ pa none (va_up μ 14 (upd (upd (μ 14) 1 0) 2 0)) pa := by
  intro h hR
  refine zMet.of (L := [some (.ref (ad 14))]) (by decide +kernel) (Nat.le_of_ble_eq_true rfl) rfl 0 rfl fun X hl C Z => ?_
  refine zz_aload_n C d_Tr_fell_0 rfl rfl ?_
  refine zz_iconst (v := 0) C d_Tr_fell_1 (by decide) ?_
  refine zz_putI C hR d_Tr_fell_2 zp_Tr_17 rfl rfl rfl (Nat.le_of_ble_eq_true rfl) rfl (fun h hR => ?_)
  refine zz_aload_n C d_Tr_fell_5 rfl rfl ?_
  refine zz_iconst (v := 0) C d_Tr_fell_6 (by decide) ?_
  refine zz_putI C hR d_Tr_fell_7 zp_Tr_21 rfl rfl rfl (Nat.le_of_ble_eq_true rfl) rfl (fun h hR => ?_)
  refine zz_vret C Z d_Tr_fell_10 ?_
  exact ⟨rfl, rfl, by simpa only [bx_uu, va_up_self] using hR⟩
def cutF (μ : Nat → Nat → Int32) (kl kh j : Nat) (side v : Int32) : Nat → Nat → Int32 := if side = 0 then va_up μ kh (upd (μ kh) j (minF (μ kh j) v)) else va_up μ kl (upd (μ kl) j (maxF (μ kl j) v))
set_option maxRecDepth 100000 in
set_option maxHeartbeats 4000000 in
theorem m_Bx_cut {kb kl kh j : Nat} {side v : Int32} (hj : j < 8) (hB : isB E ad al kb kl kh) (hL : isA E ad al kl 8) (hH : isA E ad al kh 8) : wMet l y_Bx_cut b_Bx_cut 4 none (zR 1) E [.ref (ad kb), .int (nI j), .int side, .int v] ad al μ pa none (cutF μ kl kh j side v) pa := by
  intro h hR
  refine zMet.of (L := [some (.ref (ad kb)), some (.int (nI j)), some (.int side), some (.int v)]) (by decide +kernel) (Nat.le_of_ble_eq_true rfl) rfl 0 rfl fun X hl C Z => ?_
  refine zz_iload_n C d_Bx_cut_0 rfl rfl ?_
  refine zz_if_ne (tgt := 23) C d_Bx_cut_1 (by decide) (fun c_1 => ?_) (fun c_1 => ?_)
  · refine zz_aload_n C d_Bx_cut_23 rfl rfl ?_
    refine zz_get C d_Bx_cut_24 zf_Bx_9 ((hR _).trans (hB _ _)) rfl ?_
    refine zz_iload_n C d_Bx_cut_27 rfl rfl ?_
    refine zz_aload_n C d_Bx_cut_28 rfl rfl ?_
    refine zz_get C d_Bx_cut_29 zf_Bx_9 ((hR _).trans (hB _ _)) rfl ?_
    refine zz_iload_n C d_Bx_cut_32 rfl rfl ?_
    refine zz_ialdR (j := j) C hR d_Bx_cut_33 hL rfl hj (by decide) ?_
    refine zz_iload_n C d_Bx_cut_34 rfl rfl ?_
    refine zz_callSr (e := 0) C hR d_Bx_cut_35 mk_Bx_24 zy_Ma_max m_Ma_max ⟨by decide, by decide⟩ ⟨Nat.zero_le _, Nat.zero_le _⟩ rfl rfl (Nat.le_of_ble_eq_true rfl) ?_
    refine zz_iastR (j := j) C hR d_Bx_cut_38 hL rfl hj (by decide) (fun h hR => ?_)
    refine zz_vret C Z d_Bx_cut_39 ?_
    exact ⟨rfl, rfl, by simpa only [cutF, c_1, if_true, if_false] using hR⟩
  · refine zz_aload_n C d_Bx_cut_4 rfl rfl ?_
    refine zz_get C d_Bx_cut_5 zf_Bx_15 ((hR _).trans (hB _ _)) rfl ?_
    refine zz_iload_n C d_Bx_cut_8 rfl rfl ?_
    refine zz_aload_n C d_Bx_cut_9 rfl rfl ?_
    refine zz_get C d_Bx_cut_10 zf_Bx_15 ((hR _).trans (hB _ _)) rfl ?_
    refine zz_iload_n C d_Bx_cut_13 rfl rfl ?_
    refine zz_ialdR (j := j) C hR d_Bx_cut_14 hH rfl hj (by decide) ?_
    refine zz_iload_n C d_Bx_cut_15 rfl rfl ?_
    refine zz_callSr (e := 0) C hR d_Bx_cut_16 mk_Bx_18 zy_Ma_min m_Ma_min ⟨by decide, by decide⟩ ⟨Nat.zero_le _, Nat.zero_le _⟩ rfl rfl (Nat.le_of_ble_eq_true rfl) ?_
    refine zz_iastR (j := j) C hR d_Bx_cut_19 hH rfl hj (by decide) (fun h hR => ?_)
    refine zz_goto (tgt := 39) C d_Bx_cut_20 (by decide) ?_
    refine zz_vret C Z d_Bx_cut_39 ?_
    exact ⟨rfl, rfl, by simpa only [cutF, c_1, if_true, if_false] using hR⟩
end LEAF
