/-! PROBLEM -/
def anF (μ : Nat → Nat → Int32) (n : Nat) (lo hi : Int32) : Nat → Nat → Int32 := va_up (va_up (va_up μ 2 (upd (μ 2) n lo)) 3 (upd (μ 3) n hi)) 1 (upd (μ 1) 7 (nI (n + 1)))
def arF (μ : Nat → Nat → Int32) (n : Nat) (se ri : Int32) : Nat → Nat → Int32 := va_up (va_up (va_up μ 5 (upd (μ 5) n se)) 6 (upd (μ 6) n ri)) 1 (upd (μ 1) 8 (nI (n + 1)))
def ao1 (m : Nat → Nat → Int32) (r a b : Nat) : Nat → Nat → Int32 := va_up (va_up m (24 + r) (upd (m (24 + r)) a 1)) (24 + r) (upd (va_up m (24 + r) (upd (m (24 + r)) a 1) (24 + r)) b (-1))
def ao2 (m : Nat → Nat → Int32) (r : Nat) : Nat → Nat → Int32 := va_up (va_up m 7 (upd (m 7) r 1)) 1 (upd (va_up m 7 (upd (m 7) r 1) 1) 9 (va_up m 7 (upd (m 7) r 1) 1 9 + 1))
/-- an ORDER comes, if there is room -/
def aoF (μ : Nat → Nat → Int32) (rc a b : Nat) : Nat → Nat → Int32 := if rc < 16 then ao2 (ao1 (arF μ rc 0 0) rc a b) rc else μ
def swI (a b j : Nat) : Nat := if j = a then b else if j = b then a else j
def swL (f g : Nat → Int32) (a b : Nat) : Nat → Nat → Int32
  | 0, _ => 1
  | k + 1, j => if f j = g (swI a b j) then swL f g a b k (j + 1) else 0
def isF (μ : Nat → Nat → Int32) (n r q a b : Nat) : Int32 := if ¬ μ 5 r = μ 5 q then 0 else if μ 6 r = μ 6 q then swL (μ (24 + r)) (μ (24 + q)) a b n 0 else 0
def tfF (μ : Nat → Nat → Int32) (n r a b : Nat) : Nat → Int32
  | 0 => 0
  | i + 1 => if ¬ μ 7 i = 0 then tfF μ n r a b i else if isF μ n r i a b = 0 then tfF μ n r a b i else tfF μ n r a b i + Int32.ofInt 1
def csL (μ : Nat → Nat → Int32) (n rc a b : Nat) : Nat → Nat → Int32
  | 0, _ => 1
  | k + 1, r => if ¬ μ 7 r = 0 then csL μ n rc a b k (r + 1) else if tfF μ n r a b rc = tfF μ n r a a rc then csL μ n rc a b k (r + 1) else 0
def csF (μ : Nat → Nat → Int32) (n rc a b : Nat) : Int32 := if ¬ μ 2 a = μ 2 b then 0 else if ¬ μ 3 a = μ 3 b then 0 else if μ 4 a = μ 4 b then csL μ n rc a b rc 0 else 0
def naL (μ : Nat → Nat → Int32) (n rc a : Nat) : Nat → Nat → Int32
  | 0, _ => -2
  | k + 1, j => if csF μ n rc a j = 0 then naL μ n rc a k (j + 1) else nI j
theorem swI_lt {a b j n : Nat} (ha : a < n) (hb : b < n) (hj : j < n) : swI a b j < n := by
  unfold swI; split
  · exact hb
  · split <;> assumption
section PROBLEM
variable {l : Launch} {E : zE} {ad : Nat → Nat} {al : Nat} {μ : Nat → Nat → Int32} {pa : Nat → Nat → Int64}
set_option maxRecDepth 100000 in
set_option maxHeartbeats 4000000 in
theorem m_Pb_addName {n : Nat} {x y : Int32} (hn : n < 8) (hN : μ 1 7 = nI n) : wMet l y_Pb_addName b_Pb_addName 3 (some .int) (zR 0) E [.ref (ad 1), .int x, .int y] ad al μ pa (some (.int (nI n))) (anF μ n x y) pa := by
  intro h hR
  refine zMet.of (L := [some (.ref (ad 1)), some (.int x), some (.int y)]) (by decide +kernel) (Nat.le_of_ble_eq_true rfl) rfl 0 rfl fun X hl C Z => ?_
  refine zz_aload_n C d_Pb_addName_0 rfl rfl ?_
  refine zz_get C d_Pb_addName_1 zf_Pb_36 ((hR _).trans rfl) rfl ?_
  refine zz_bipush (v := 8) C d_Pb_addName_4 (by decide) ?_
  refine zz_icmp_lt (tgt := 12) C d_Pb_addName_6 (by decide) (fun c_6 => ?_) (fun c_6 => ?_)
  · refine zz_aload_n C d_Pb_addName_12 rfl rfl ?_
    refine zz_get C d_Pb_addName_13 zf_Pb_9 ((hR _).trans rfl) rfl ?_
    refine zz_aload_n C d_Pb_addName_16 rfl rfl ?_
    refine zz_get C d_Pb_addName_17 zf_Pb_36 ((hR _).trans rfl) rfl ?_
    refine zz_iload_n C d_Pb_addName_20 rfl rfl ?_
    refine zz_iastR (j := n) C hR d_Pb_addName_21 (fun _ _ => rfl) hN hn (by decide) (fun h hR => ?_)
    refine zz_aload_n C d_Pb_addName_22 rfl rfl ?_
    refine zz_get C d_Pb_addName_23 zf_Pb_15 ((hR _).trans rfl) rfl ?_
    refine zz_aload_n C d_Pb_addName_26 rfl rfl ?_
    refine zz_get C d_Pb_addName_27 zf_Pb_36 ((hR _).trans rfl) rfl ?_
    refine zz_iload_n C d_Pb_addName_30 rfl rfl ?_
    refine zz_iastR (j := n) C hR d_Pb_addName_31 (fun _ _ => rfl) hN hn (by decide) (fun h hR => ?_)
    refine zz_aload_n C d_Pb_addName_32 rfl rfl ?_
    refine zz_dup C d_Pb_addName_33 rfl ?_
    refine zz_get C d_Pb_addName_34 zf_Pb_36 ((hR _).trans rfl) rfl ?_
    refine zz_iconst (v := 1) C d_Pb_addName_37 (by decide) ?_
    refine zz_iadd C d_Pb_addName_38 ?_
    refine zz_putI C hR d_Pb_addName_39 zp_Pb_36 rfl rfl rfl (Nat.le_of_ble_eq_true rfl) rfl (fun h hR => ?_)
    refine zz_aload_n C d_Pb_addName_42 rfl rfl ?_
    refine zz_get C d_Pb_addName_43 zf_Pb_36 ((hR _).trans rfl) rfl ?_
    refine zz_iconst (v := 1) C d_Pb_addName_46 (by decide) ?_
    refine zz_isub C d_Pb_addName_47 ?_
    refine zz_iret C Z d_Pb_addName_48 ?_
    have e : μ 1 7 + 1 = nI (n + 1) := by rw [hN, nI_1]
    refine ⟨?_, rfl, ?_⟩
    · show some (Value.int (μ 1 7 + 1 - 1)) = _
      rw [e, nI_pred]
    · unfold anF
      rw [← e]
      exact hR
  · exact absurd (by rw [hN]; exact nI_lt (b := 8) hn (by decide)) c_6
set_option maxRecDepth 100000 in
set_option maxHeartbeats 4000000 in
theorem m_Pb_addName_full {x y : Int32} (hN : μ 1 7 = nI 8) : rMet l y_Pb_addName b_Pb_addName 3 (some .int) (zR 0) E [.ref (ad 1), .int x, .int y] ad al μ pa (.int (-3)) := by
  intro h hR
  refine zMet.of (L := [some (.ref (ad 1)), some (.int x), some (.int y)]) (by decide +kernel) (Nat.le_of_ble_eq_true rfl) rfl 0 rfl fun X hl C Z => ?_
  refine zz_aload_n C d_Pb_addName_0 rfl rfl ?_
  refine zz_get C d_Pb_addName_1 zf_Pb_36 ((hR _).trans rfl) rfl ?_
  refine zz_bipush (v := 8) C d_Pb_addName_4 (by decide) ?_
  refine zz_icmp_lt (tgt := 12) C d_Pb_addName_6 (by decide) (fun c_6 => ?_) (fun c_6 => ?_)
  · exact absurd (by rw [hN] at c_6; exact c_6) (by decide)
  · refine zz_bipush (v := -3) C d_Pb_addName_9 (by decide) ?_
    refine zz_iret C Z d_Pb_addName_11 ?_
    exact ⟨rfl, rfl, rfl⟩
set_option maxRecDepth 100000 in
set_option maxHeartbeats 4000000 in
theorem m_Pb_addRow {n : Nat} {x y : Int32} (hn : n < 16) (hN : μ 1 8 = nI n) : wMet l y_Pb_addRow b_Pb_addRow 3 (some .int) (zR 0) E [.ref (ad 1), .int x, .int y] ad al μ pa (some (.int (nI n))) (arF μ n x y) pa := by
  intro h hR
  refine zMet.of (L := [some (.ref (ad 1)), some (.int x), some (.int y)]) (by decide +kernel) (Nat.le_of_ble_eq_true rfl) rfl 0 rfl fun X hl C Z => ?_
  refine zz_aload_n C d_Pb_addRow_0 rfl rfl ?_
  refine zz_get C d_Pb_addRow_1 zf_Pb_40 ((hR _).trans rfl) rfl ?_
  refine zz_bipush (v := 16) C d_Pb_addRow_4 (by decide) ?_
  refine zz_icmp_lt (tgt := 12) C d_Pb_addRow_6 (by decide) (fun c_6 => ?_) (fun c_6 => ?_)
  · refine zz_aload_n C d_Pb_addRow_12 rfl rfl ?_
    refine zz_get C d_Pb_addRow_13 zf_Pb_21 ((hR _).trans rfl) rfl ?_
    refine zz_aload_n C d_Pb_addRow_16 rfl rfl ?_
    refine zz_get C d_Pb_addRow_17 zf_Pb_40 ((hR _).trans rfl) rfl ?_
    refine zz_iload_n C d_Pb_addRow_20 rfl rfl ?_
    refine zz_iastR (j := n) C hR d_Pb_addRow_21 (fun _ _ => rfl) hN hn (by decide) (fun h hR => ?_)
    refine zz_aload_n C d_Pb_addRow_22 rfl rfl ?_
    refine zz_get C d_Pb_addRow_23 zf_Pb_24 ((hR _).trans rfl) rfl ?_
    refine zz_aload_n C d_Pb_addRow_26 rfl rfl ?_
    refine zz_get C d_Pb_addRow_27 zf_Pb_40 ((hR _).trans rfl) rfl ?_
    refine zz_iload_n C d_Pb_addRow_30 rfl rfl ?_
    refine zz_iastR (j := n) C hR d_Pb_addRow_31 (fun _ _ => rfl) hN hn (by decide) (fun h hR => ?_)
    refine zz_aload_n C d_Pb_addRow_32 rfl rfl ?_
    refine zz_dup C d_Pb_addRow_33 rfl ?_
    refine zz_get C d_Pb_addRow_34 zf_Pb_40 ((hR _).trans rfl) rfl ?_
    refine zz_iconst (v := 1) C d_Pb_addRow_37 (by decide) ?_
    refine zz_iadd C d_Pb_addRow_38 ?_
    refine zz_putI C hR d_Pb_addRow_39 zp_Pb_40 rfl rfl rfl (Nat.le_of_ble_eq_true rfl) rfl (fun h hR => ?_)
    refine zz_aload_n C d_Pb_addRow_42 rfl rfl ?_
    refine zz_get C d_Pb_addRow_43 zf_Pb_40 ((hR _).trans rfl) rfl ?_
    refine zz_iconst (v := 1) C d_Pb_addRow_46 (by decide) ?_
    refine zz_isub C d_Pb_addRow_47 ?_
    refine zz_iret C Z d_Pb_addRow_48 ?_
    have e : μ 1 8 + 1 = nI (n + 1) := by rw [hN, nI_1]
    refine ⟨?_, rfl, ?_⟩
    · show some (Value.int (μ 1 8 + 1 - 1)) = _
      rw [e, nI_pred]
    · unfold arF
      rw [← e]
      exact hR
  · exact absurd (by rw [hN]; exact nI_lt (b := 16) hn (by decide)) c_6
set_option maxRecDepth 100000 in
set_option maxHeartbeats 4000000 in
theorem m_Pb_addRow_full {x y : Int32} (hN : μ 1 8 = nI 16) : rMet l y_Pb_addRow b_Pb_addRow 3 (some .int) (zR 0) E [.ref (ad 1), .int x, .int y] ad al μ pa (.int (-3)) := by
  intro h hR
  refine zMet.of (L := [some (.ref (ad 1)), some (.int x), some (.int y)]) (by decide +kernel) (Nat.le_of_ble_eq_true rfl) rfl 0 rfl fun X hl C Z => ?_
  refine zz_aload_n C d_Pb_addRow_0 rfl rfl ?_
  refine zz_get C d_Pb_addRow_1 zf_Pb_40 ((hR _).trans rfl) rfl ?_
  refine zz_bipush (v := 16) C d_Pb_addRow_4 (by decide) ?_
  refine zz_icmp_lt (tgt := 12) C d_Pb_addRow_6 (by decide) (fun c_6 => ?_) (fun c_6 => ?_)
  · exact absurd (by rw [hN] at c_6; exact c_6) (by decide)
  · refine zz_bipush (v := -3) C d_Pb_addRow_9 (by decide) ?_
    refine zz_iret C Z d_Pb_addRow_11 ?_
    exact ⟨rfl, rfl, rfl⟩
set_option maxRecDepth 100000 in
set_option maxHeartbeats 4000000 in
theorem m_Pb_addOrder {rc a b : Nat} (hr : rc < 16) (hM : μ 1 8 = nI rc) (ha : a < 8) (hb : b < 8) : wMet l y_Pb_addOrder b_Pb_addOrder 4 none (zR 1) E [.ref (ad 1), .int (nI a), .int (nI b)] ad al μ pa none (aoF μ rc a b) pa := by
  intro h hR
  refine zMet.of (L := [some (.ref (ad 1)), some (.int (nI a)), some (.int (nI b)), none]) (by decide +kernel) (Nat.le_of_ble_eq_true rfl) rfl 1 rfl fun X hl C Z => ?_
  refine zz_aload_n C d_Pb_addOrder_0 rfl rfl ?_
  refine zz_iconst (v := 0) C d_Pb_addOrder_1 (by decide) ?_
  refine zz_iconst (v := 0) C d_Pb_addOrder_2 (by decide) ?_
  refine zz_callVw (e := 0) C hR d_Pb_addOrder_3 mk_Pb_58 zy_Pb_addRow (m_Pb_addRow hr hM) ⟨by decide, by decide⟩ ⟨Nat.zero_le _, Nat.zero_le _⟩ rfl rfl rfl rfl (Nat.le_of_ble_eq_true rfl) (fun h hR => ?_)
  refine zz_istore_n C d_Pb_addOrder_6 rfl (by decide) rfl ?_
  refine zz_iload_n C d_Pb_addOrder_7 rfl rfl ?_
  refine zz_bipush (v := -3) C d_Pb_addOrder_8 (by decide) ?_
  refine zz_icmp_eq (tgt := 48) C d_Pb_addOrder_10 (by decide) (fun c_10 => ?_) (fun c_10 => ?_)
  · exact absurd c_10 (ne_m3 (by omega))
  · refine zz_aload_n C d_Pb_addOrder_13 rfl rfl ?_
    refine zz_get C d_Pb_addOrder_14 zf_Pb_33 ((hR _).trans rfl) rfl ?_
    refine zz_iload_n C d_Pb_addOrder_17 rfl rfl ?_
    refine zz_rowR (r := rc) C hR d_Pb_addOrder_18 rfl hr ?_
    refine zz_iload_n C d_Pb_addOrder_19 rfl rfl ?_
    refine zz_iconst (v := 1) C d_Pb_addOrder_20 (by decide) ?_
    refine zz_iastR (j := a) C hR d_Pb_addOrder_21 (zb_row E ad al hr) rfl ha (by decide) (fun h hR => ?_)
    refine zz_aload_n C d_Pb_addOrder_22 rfl rfl ?_
    refine zz_get C d_Pb_addOrder_23 zf_Pb_33 ((hR _).trans rfl) rfl ?_
    refine zz_iload_n C d_Pb_addOrder_26 rfl rfl ?_
    refine zz_rowR (r := rc) C hR d_Pb_addOrder_27 rfl hr ?_
    refine zz_iload_n C d_Pb_addOrder_28 rfl rfl ?_
    refine zz_iconst (v := -1) C d_Pb_addOrder_29 (by decide) ?_
    refine zz_iastR (j := b) C hR d_Pb_addOrder_30 (zb_row E ad al hr) rfl hb (by decide) (fun h hR => ?_)
    refine zz_aload_n C d_Pb_addOrder_31 rfl rfl ?_
    refine zz_get C d_Pb_addOrder_32 zf_Pb_27 ((hR _).trans rfl) rfl ?_
    refine zz_iload_n C d_Pb_addOrder_35 rfl rfl ?_
    refine zz_iconst (v := 1) C d_Pb_addOrder_36 (by decide) ?_
    refine zz_zastR (j := rc) C hR d_Pb_addOrder_37 (fun _ _ => rfl) rfl hr (by decide) (by decide) (fun h hR => ?_)
    refine zz_aload_n C d_Pb_addOrder_38 rfl rfl ?_
    refine zz_dup C d_Pb_addOrder_39 rfl ?_
    refine zz_get C d_Pb_addOrder_40 zf_Pb_51 ((hR _).trans rfl) rfl ?_
    refine zz_iconst (v := 1) C d_Pb_addOrder_43 (by decide) ?_
    refine zz_iadd C d_Pb_addOrder_44 ?_
    refine zz_putI C hR d_Pb_addOrder_45 zp_Pb_51 rfl rfl rfl (Nat.le_of_ble_eq_true rfl) rfl (fun h hR => ?_)
    refine zz_vret C Z d_Pb_addOrder_48 ?_
    exact ⟨rfl, rfl, by unfold aoF; rw [if_pos hr]; exact hR⟩
set_option maxRecDepth 100000 in
set_option maxHeartbeats 4000000 in
theorem m_Pb_addOrder_full {a b : Nat} (hM : μ 1 8 = nI 16) : wMet l y_Pb_addOrder b_Pb_addOrder 4 none (zR 1) E [.ref (ad 1), .int (nI a), .int (nI b)] ad al μ pa none (aoF μ 16 a b) pa := by
  intro h hR
  refine zMet.of (L := [some (.ref (ad 1)), some (.int (nI a)), some (.int (nI b)), none]) (by decide +kernel) (Nat.le_of_ble_eq_true rfl) rfl 1 rfl fun X hl C Z => ?_
  refine zz_aload_n C d_Pb_addOrder_0 rfl rfl ?_
  refine zz_iconst (v := 0) C d_Pb_addOrder_1 (by decide) ?_
  refine zz_iconst (v := 0) C d_Pb_addOrder_2 (by decide) ?_
  refine zz_callVr (e := 0) C hR d_Pb_addOrder_3 mk_Pb_58 zy_Pb_addRow (m_Pb_addRow_full hM) ⟨by decide, by decide⟩ ⟨Nat.zero_le _, Nat.zero_le _⟩ rfl rfl rfl rfl (Nat.le_of_ble_eq_true rfl) ?_
  refine zz_istore_n C d_Pb_addOrder_6 rfl (by decide) rfl ?_
  refine zz_iload_n C d_Pb_addOrder_7 rfl rfl ?_
  refine zz_bipush (v := -3) C d_Pb_addOrder_8 (by decide) ?_
  refine zz_icmp_eq (tgt := 48) C d_Pb_addOrder_10 (by decide) (fun c_10 => ?_) (fun c_10 => ?_)
  · refine zz_vret C Z d_Pb_addOrder_48 ?_
    exact ⟨rfl, rfl, hR⟩
  · exact absurd rfl c_10
set_option maxRecDepth 100000 in
set_option maxHeartbeats 4000000 in
theorem lp_Pb_isSwapped {X : zX} {h : zH} {post : Option Value → (Nat → Nat) → zH → Prop} (C : zc X E b_Pb_isSwapped 7 "BranchTrees$Problem" (zR 0)) (Z : zr X E (some .boolean) 0 0 post) {n r q a b : Nat} (hn : n ≤ 8) (hN : μ 1 7 = nI n) (hr : r < 16) (hq : q < 16) (ha : a < n) (hb : b < n) (hR : zRep E ad al μ pa h) {T : Int32} (hpost : post (some (.int T)) ad h) :
    ∀ (k i : Nat) (w : Option Value), n - i = k → i ≤ n → swL (μ (24 + r)) (μ (24 + q)) a b k i = T → zz X E 7 ad 0 0 35 [some (.ref (ad 1)), some (.int (nI r)), some (.int (nI q)), some (.int (nI a)), some (.int (nI b)), some (.int (nI i)), w] [] h := by
  intro k
  induction k with
  | zero =>
    intro i w hk hin hT
    have e : i = n := by omega
    subst e
    simp only [swL] at hT
    refine zz_iload C d_Pb_isSwapped_35 rfl ?_
    refine zz_aload_n C d_Pb_isSwapped_37 rfl rfl ?_
    refine zz_get C d_Pb_isSwapped_38 zf_Pb_36 ((hR _).trans rfl) rfl ?_
    refine zz_icmp_ge (tgt := 99) C d_Pb_isSwapped_41 (by decide) (fun c_41 => ?_) (fun c_41 => ?_)
    · refine zz_iconst (v := 1) C d_Pb_isSwapped_99 (by decide) ?_
      refine zz_zret C Z d_Pb_isSwapped_100 (by first | rfl | decide | assumption) ?_
      exact hT ▸ hpost
    · exact absurd (by rw [hN]; exact nI_le (Nat.le_refl _) (by omega)) c_41
  | succ k ih =>
    intro i w hk hin hT
    have hlt : i < n := by omega
    simp only [swL] at hT
    refine zz_iload C d_Pb_isSwapped_35 rfl ?_
    refine zz_aload_n C d_Pb_isSwapped_37 rfl rfl ?_
    refine zz_get C d_Pb_isSwapped_38 zf_Pb_36 ((hR _).trans rfl) rfl ?_
    refine zz_icmp_ge (tgt := 99) C d_Pb_isSwapped_41 (by decide) (fun c_41 => ?_) (fun c_41 => ?_)
    · exact absurd (by rw [hN] at c_41; exact c_41) (nI_ge hlt (by omega))
    · refine zz_iload C d_Pb_isSwapped_44 rfl ?_
      refine zz_iload_n C d_Pb_isSwapped_46 rfl rfl ?_
      refine zz_icmp_ne (tgt := 55) C d_Pb_isSwapped_47 (by decide) (fun c_47 => ?_) (fun c_47 => ?_)
      · have c_47 : ¬ i = a := fun e => c_47 (by rw [e])
        refine zz_iload C d_Pb_isSwapped_55 rfl ?_
        refine zz_iload C d_Pb_isSwapped_57 rfl ?_
        refine zz_icmp_ne (tgt := 66) C d_Pb_isSwapped_59 (by decide) (fun c_59 => ?_) (fun c_59 => ?_)
        · have c_59 : ¬ i = b := fun e => c_59 (by rw [e])
          have hsw : swI a b i = i := by simp only [swI, c_47, c_59, if_false]
          refine zz_iload C d_Pb_isSwapped_66 rfl ?_
          refine zz_istore C d_Pb_isSwapped_68 (by decide) rfl ?_
          refine zz_aload_n C d_Pb_isSwapped_70 rfl rfl ?_
          refine zz_get C d_Pb_isSwapped_71 zf_Pb_33 ((hR _).trans rfl) rfl ?_
          refine zz_iload_n C d_Pb_isSwapped_74 rfl rfl ?_
          refine zz_rowR (r := r) C hR d_Pb_isSwapped_75 rfl hr ?_
          refine zz_iload C d_Pb_isSwapped_76 rfl ?_
          refine zz_ialdR (j := i) C hR d_Pb_isSwapped_78 (zb_row E ad al hr) rfl (by omega) (by decide) ?_
          refine zz_aload_n C d_Pb_isSwapped_79 rfl rfl ?_
          refine zz_get C d_Pb_isSwapped_80 zf_Pb_33 ((hR _).trans rfl) rfl ?_
          refine zz_iload_n C d_Pb_isSwapped_83 rfl rfl ?_
          refine zz_rowR (r := q) C hR d_Pb_isSwapped_84 rfl hq ?_
          refine zz_iload C d_Pb_isSwapped_85 rfl ?_
          refine zz_ialdR (j := _) C hR d_Pb_isSwapped_87 (zb_row E ad al hq) rfl (by omega) (by decide) ?_
          refine zz_icmp_eq (tgt := 93) C d_Pb_isSwapped_88 (by decide) (fun c_88 => ?_) (fun c_88 => ?_)
          · rw [hsw, if_pos c_88] at hT
            refine zz_iinc C d_Pb_isSwapped_93 rfl (nI_inc _) (by decide) rfl ?_
            refine zz_goto (tgt := 35) C d_Pb_isSwapped_96 (by decide) ?_
            exact ih (i + 1) _ (by omega) hlt hT
          · rw [hsw, if_neg c_88] at hT
            refine zz_iconst (v := 0) C d_Pb_isSwapped_91 (by decide) ?_
            refine zz_zret C Z d_Pb_isSwapped_92 (by first | rfl | decide | assumption) ?_
            exact hT ▸ hpost
        · have c_59 : i = b := (nI_eq (by omega) (by omega)).mp c_59
          have hsw : swI a b i = a := by simp only [swI, c_47, c_59, if_true, if_false]; split <;> simp_all
          refine zz_iload_n C d_Pb_isSwapped_62 rfl rfl ?_
          refine zz_goto (tgt := 68) C d_Pb_isSwapped_63 (by decide) ?_
          refine zz_istore C d_Pb_isSwapped_68 (by decide) rfl ?_
          refine zz_aload_n C d_Pb_isSwapped_70 rfl rfl ?_
          refine zz_get C d_Pb_isSwapped_71 zf_Pb_33 ((hR _).trans rfl) rfl ?_
          refine zz_iload_n C d_Pb_isSwapped_74 rfl rfl ?_
          refine zz_rowR (r := r) C hR d_Pb_isSwapped_75 rfl hr ?_
          refine zz_iload C d_Pb_isSwapped_76 rfl ?_
          refine zz_ialdR (j := i) C hR d_Pb_isSwapped_78 (zb_row E ad al hr) rfl (by omega) (by decide) ?_
          refine zz_aload_n C d_Pb_isSwapped_79 rfl rfl ?_
          refine zz_get C d_Pb_isSwapped_80 zf_Pb_33 ((hR _).trans rfl) rfl ?_
          refine zz_iload_n C d_Pb_isSwapped_83 rfl rfl ?_
          refine zz_rowR (r := q) C hR d_Pb_isSwapped_84 rfl hq ?_
          refine zz_iload C d_Pb_isSwapped_85 rfl ?_
          refine zz_ialdR (j := _) C hR d_Pb_isSwapped_87 (zb_row E ad al hq) rfl (by omega) (by decide) ?_
          refine zz_icmp_eq (tgt := 93) C d_Pb_isSwapped_88 (by decide) (fun c_88 => ?_) (fun c_88 => ?_)
          · rw [hsw, if_pos c_88] at hT
            refine zz_iinc C d_Pb_isSwapped_93 rfl (nI_inc _) (by decide) rfl ?_
            refine zz_goto (tgt := 35) C d_Pb_isSwapped_96 (by decide) ?_
            exact ih (i + 1) _ (by omega) hlt hT
          · rw [hsw, if_neg c_88] at hT
            refine zz_iconst (v := 0) C d_Pb_isSwapped_91 (by decide) ?_
            refine zz_zret C Z d_Pb_isSwapped_92 (by first | rfl | decide | assumption) ?_
            exact hT ▸ hpost
      · have c_47 : i = a := (nI_eq (by omega) (by omega)).mp c_47
        have hsw : swI a b i = b := by simp only [swI, c_47, if_true]
        refine zz_iload C d_Pb_isSwapped_50 rfl ?_
        refine zz_goto (tgt := 68) C d_Pb_isSwapped_52 (by decide) ?_
        refine zz_istore C d_Pb_isSwapped_68 (by decide) rfl ?_
        refine zz_aload_n C d_Pb_isSwapped_70 rfl rfl ?_
        refine zz_get C d_Pb_isSwapped_71 zf_Pb_33 ((hR _).trans rfl) rfl ?_
        refine zz_iload_n C d_Pb_isSwapped_74 rfl rfl ?_
        refine zz_rowR (r := r) C hR d_Pb_isSwapped_75 rfl hr ?_
        refine zz_iload C d_Pb_isSwapped_76 rfl ?_
        refine zz_ialdR (j := i) C hR d_Pb_isSwapped_78 (zb_row E ad al hr) rfl (by omega) (by decide) ?_
        refine zz_aload_n C d_Pb_isSwapped_79 rfl rfl ?_
        refine zz_get C d_Pb_isSwapped_80 zf_Pb_33 ((hR _).trans rfl) rfl ?_
        refine zz_iload_n C d_Pb_isSwapped_83 rfl rfl ?_
        refine zz_rowR (r := q) C hR d_Pb_isSwapped_84 rfl hq ?_
        refine zz_iload C d_Pb_isSwapped_85 rfl ?_
        refine zz_ialdR (j := _) C hR d_Pb_isSwapped_87 (zb_row E ad al hq) rfl (by omega) (by decide) ?_
        refine zz_icmp_eq (tgt := 93) C d_Pb_isSwapped_88 (by decide) (fun c_88 => ?_) (fun c_88 => ?_)
        · rw [hsw, if_pos c_88] at hT
          refine zz_iinc C d_Pb_isSwapped_93 rfl (nI_inc _) (by decide) rfl ?_
          refine zz_goto (tgt := 35) C d_Pb_isSwapped_96 (by decide) ?_
          exact ih (i + 1) _ (by omega) hlt hT
        · rw [hsw, if_neg c_88] at hT
          refine zz_iconst (v := 0) C d_Pb_isSwapped_91 (by decide) ?_
          refine zz_zret C Z d_Pb_isSwapped_92 (by first | rfl | decide | assumption) ?_
          exact hT ▸ hpost
set_option maxRecDepth 100000 in
set_option maxHeartbeats 4000000 in
theorem m_Pb_isSwapped {n r q a b : Nat} (hn : n ≤ 8) (hN : μ 1 7 = nI n) (hr : r < 16) (hq : q < 16) (ha : a < n) (hb : b < n) : rMet l y_Pb_isSwapped b_Pb_isSwapped 7 (some .boolean) (zR 0) E [.ref (ad 1), .int (nI r), .int (nI q), .int (nI a), .int (nI b)] ad al μ pa (.int (isF μ n r q a b)) := by
  intro h hR
  refine zMet.of (L := [some (.ref (ad 1)), some (.int (nI r)), some (.int (nI q)), some (.int (nI a)), some (.int (nI b)), none, none]) (by decide +kernel) (Nat.le_of_ble_eq_true rfl) rfl 2 rfl fun X hl C Z => ?_
  refine zz_aload_n C d_Pb_isSwapped_0 rfl rfl ?_
  refine zz_get C d_Pb_isSwapped_1 zf_Pb_21 ((hR _).trans rfl) rfl ?_
  refine zz_iload_n C d_Pb_isSwapped_4 rfl rfl ?_
  refine zz_ialdR (j := r) C hR d_Pb_isSwapped_5 (fun _ _ => rfl) rfl hr (by decide) ?_
  refine zz_aload_n C d_Pb_isSwapped_6 rfl rfl ?_
  refine zz_get C d_Pb_isSwapped_7 zf_Pb_21 ((hR _).trans rfl) rfl ?_
  refine zz_iload_n C d_Pb_isSwapped_10 rfl rfl ?_
  refine zz_ialdR (j := q) C hR d_Pb_isSwapped_11 (fun _ _ => rfl) rfl hq (by decide) ?_
  refine zz_icmp_ne (tgt := 30) C d_Pb_isSwapped_12 (by decide) (fun c_12 => ?_) (fun c_12 => ?_)
  · refine zz_iconst (v := 0) C d_Pb_isSwapped_30 (by decide) ?_
    refine zz_zret C Z d_Pb_isSwapped_31 (by first | rfl | decide | assumption) ?_
    exact ⟨by simp [isF, c_12], rfl, rfl⟩
  · refine zz_aload_n C d_Pb_isSwapped_15 rfl rfl ?_
    refine zz_get C d_Pb_isSwapped_16 zf_Pb_24 ((hR _).trans rfl) rfl ?_
    refine zz_iload_n C d_Pb_isSwapped_19 rfl rfl ?_
    refine zz_ialdR (j := r) C hR d_Pb_isSwapped_20 (fun _ _ => rfl) rfl hr (by decide) ?_
    refine zz_aload_n C d_Pb_isSwapped_21 rfl rfl ?_
    refine zz_get C d_Pb_isSwapped_22 zf_Pb_24 ((hR _).trans rfl) rfl ?_
    refine zz_iload_n C d_Pb_isSwapped_25 rfl rfl ?_
    refine zz_ialdR (j := q) C hR d_Pb_isSwapped_26 (fun _ _ => rfl) rfl hq (by decide) ?_
    refine zz_icmp_eq (tgt := 32) C d_Pb_isSwapped_27 (by decide) (fun c_27 => ?_) (fun c_27 => ?_)
    · refine zz_iconst (v := 0) C d_Pb_isSwapped_32 (by decide) ?_
      refine zz_istore C d_Pb_isSwapped_33 (by decide) rfl ?_
      exact lp_Pb_isSwapped C Z hn hN hr hq ha hb hR ⟨rfl, rfl, rfl⟩ n 0 _ rfl (Nat.zero_le n) (by simp [isF, c_12, c_27])
    · refine zz_iconst (v := 0) C d_Pb_isSwapped_30 (by decide) ?_
      refine zz_zret C Z d_Pb_isSwapped_31 (by first | rfl | decide | assumption) ?_
      exact ⟨by simp [isF, c_12, c_27], rfl, rfl⟩
end PROBLEM
