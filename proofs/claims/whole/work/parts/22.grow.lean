/-! TREE.grow -/
theorem zb_grow {E : zE} {ad ad' : Nat → Nat} {al k : Nat} (hag : ∀ i, i < 100 + 4 * al → ad' i = ad i) (h15 : k ≠ 15) (hk : k < 100 + 4 * al ∨ 100 + 4 * al + 4 ≤ k) (row : Nat → Int32) (rl : Nat → Int64) : zb E ad' (al + 1) k row rl = zb E ad al k row rl := by
  have e : ∀ i, i < 100 → ad' i = ad i := fun i hi => hag i (by omega)
  rcases Nat.lt_or_ge k 64 with h | h
  · match k, h with
    | 0, _ => simp [zb, e]
    | 1, _ => simp [zb, e]
    | 2, _ => rfl
    | 3, _ => rfl
    | 4, _ => rfl
    | 5, _ => rfl
    | 6, _ => rfl
    | 7, _ => rfl
    | 8, _ =>
      have : (fun r => if r < 16 then some (ad' (24 + r)) else none) = (fun r => if r < 16 then some (ad (24 + r)) else none) := by
        funext r
        by_cases q : r < 16
        · rw [if_pos q, if_pos q, e _ (by omega)]
        · rw [if_neg q, if_neg q]
      simp only [zb, this]
    | 9, _ => simp [zb, e]
    | 10, _ => rfl
    | 11, _ => simp [zb, e]
    | 12, _ => rfl
    | 13, _ => rfl
    | 14, _ => simp [zb, e]
    | 15, _ => exact absurd rfl h15
    | 16, _ => simp [zb, e]
    | 17, _ => simp [zb, e]
    | 18, _ => simp [zb, e]
    | 19, _ => simp [zb, e]
    | 20, _ => rfl
    | 21, _ => rfl
    | 22, _ => rfl
    | 23, _ => rfl
    | 24, _ => rfl
    | 25, _ => rfl
    | 26, _ => rfl
    | 27, _ => rfl
    | 28, _ => rfl
    | 29, _ => rfl
    | 30, _ => rfl
    | 31, _ => rfl
    | 32, _ => rfl
    | 33, _ => rfl
    | 34, _ => rfl
    | 35, _ => rfl
    | 36, _ => rfl
    | 37, _ => rfl
    | 38, _ => rfl
    | 39, _ => rfl
    | 40, _ => simp [zb, e]
    | 41, _ => rfl
    | 42, _ => rfl
    | 43, _ => rfl
    | 44, _ => rfl
    | 45, _ => rfl
    | 46, _ => rfl
    | 47, _ => rfl
    | 48, _ => rfl
    | 49, _ => rfl
    | 50, _ => rfl
    | 51, _ => rfl
    | 52, _ => rfl
    | 53, _ => rfl
    | 54, _ => rfl
    | 55, _ => rfl
    | 56, _ => rfl
    | 57, _ => rfl
    | 58, _ => rfl
    | 59, _ => rfl
    | 60, _ => rfl
    | 61, _ => rfl
    | 62, _ => rfl
    | 63, _ => rfl
    | k + 64, h => omega
  · obtain ⟨m, rfl⟩ : ∃ m, k = m + 64 := ⟨k - 64, by omega⟩
    unfold zb
    simp only []
    by_cases c : 100 ≤ m + 64 ∧ (m + 64 - 100) / 4 < al
    · have c' : 100 ≤ m + 64 ∧ (m + 64 - 100) / 4 < al + 1 := by omega
      rw [if_pos c, if_pos c']
      by_cases d0 : (m + 64 - 100) % 4 = 0
      · rw [if_pos d0, if_pos d0, hag (m + 64 + 1) (by omega)]
      · rw [if_neg d0, if_neg d0]
        by_cases d1 : (m + 64 - 100) % 4 = 1
        · rw [if_pos d1, if_pos d1, hag (m + 64 + 1) (by omega), hag (m + 64 + 2) (by omega)]
        · rw [if_neg d1, if_neg d1]
    · have c' : ¬ (100 ≤ m + 64 ∧ (m + 64 - 100) / 4 < al + 1) := by omega
      rw [if_neg c, if_neg c']
theorem zb_none {E : zE} {ad : Nat → Nat} {al k : Nat} (hk : 100 + 4 * al ≤ k) (row : Nat → Int32) (rl : Nat → Int64) : zb E ad al k row rl = none := by
  obtain ⟨m, rfl⟩ : ∃ m, k = m + 64 := ⟨k - 64, by omega⟩
  unfold zb
  simp only []
  rw [if_neg (by omega)]
/-- the rows behind grow: in use again, or new -/
def grF (μ : Nat → Nat → Int32) (al sz : Nat) : Nat → Nat → Int32 := if sz < al then va_up μ 14 (upd (μ 14) 1 (nI (sz + 1))) else va_up (va_up (va_up (va_up μ (100 + 4 * sz) (fun i => if i = 0 then nI sz else 0)) (100 + 4 * sz + 2) (fun _ => 0)) (100 + 4 * sz + 3) (fun _ => 0)) 14 (upd (μ 14) 1 (nI (sz + 1)))
def grA (al sz : Nat) : Nat := if sz < al then al else al + 1
/-- what a method with a growing tree leaves -/
def gPost (E : zE) (ad : Nat → Nat) (al : Nat) (r : (Nat → Nat) → Option Value) (al' : Nat) (μ' : Nat → Nat → Int32) (pa' : Nat → Nat → Int64) : Option Value → (Nat → Nat) → zH → Prop := fun r' ad' h' => r' = r ad' ∧ (∀ k, k < 100 + 4 * al → ad' k = ad k) ∧ zRep E ad' al' μ' pa' h'
/-- a room with cells for so many new nodes -/
def gR (d n : Nat) : Room := { frames := d, cells := 4 * n, slots := 30 * n, locals := 40 * d }
theorem nd_dflt : ∀ j, j < 12 → defaultValue (t_Nd j) = vp_V [.int 0, .null, .int 0, .int 0, .int 0, .int 0, .int 0, .int 0, .int 0, .int 0, .int 0, .int 0] j := by
  intro j hj
  match j, hj with
  | 0, _ => rfl
  | 1, _ => rfl
  | 2, _ => rfl
  | 3, _ => rfl
  | 4, _ => rfl
  | 5, _ => rfl
  | 6, _ => rfl
  | 7, _ => rfl
  | 8, _ => rfl
  | 9, _ => rfl
  | 10, _ => rfl
  | 11, _ => rfl
  | j + 12, hj => omega
section GROW
variable {l : Launch} {E : zE} {ad : Nat → Nat} {al : Nat} {μ : Nat → Nat → Int32} {pa : Nat → Nat → Int64}
set_option maxRecDepth 100000 in
set_option maxHeartbeats 4000000 in
theorem m_Tr_grow_old {h : zH} (hR : zRep E ad al μ pa h) {sz : Nat} (hS : μ 14 1 = nI sz) (hsz : sz < al) (hal : al ≤ 600) : zMet l y_Tr_grow b_Tr_grow 1 (some (.object "BranchTrees$Node")) (gR 3 0) E [.ref (ad 14)] ad h (gPost E ad al (fun ad' => some (.ref (ad' (100 + 4 * sz)))) al (grF μ al sz) pa) := by
  refine zMet.of (L := [some (.ref (ad 14))]) (by decide +kernel) (Nat.le_of_ble_eq_true rfl) rfl 0 rfl fun X hl C Z => ?_
  have e1 : μ 14 1 + 1 = nI (sz + 1) := by rw [hS, nI_1]
  refine zz_aload_n C d_Tr_grow_0 rfl rfl ?_
  refine zz_get C d_Tr_grow_1 zf_Tr_17 ((hR _).trans rfl) rfl ?_
  refine zz_sipush (v := 600) C d_Tr_grow_4 (by decide) ?_
  refine zz_icmp_lt (tgt := 12) C d_Tr_grow_7 (by decide) (fun c_7 => ?_) (fun c_7 => ?_)
  · refine zz_aload_n C d_Tr_grow_12 rfl rfl ?_
    refine zz_get C d_Tr_grow_13 zf_Tr_11 ((hR _).trans rfl) rfl ?_
    refine zz_aload_n C d_Tr_grow_16 rfl rfl ?_
    refine zz_get C d_Tr_grow_17 zf_Tr_17 ((hR _).trans rfl) rfl ?_
    rw [hS]
    refine zz_aaldR (k := 15) (n := 600) (j := sz) (q := 100 + 4 * sz) C hR 3 d_Tr_grow_20 (fun _ _ => rfl) rfl rfl rfl (by omega) (by decide) (if_pos hsz) ?_
    refine zz_ifnonnull (tgt := 44) C d_Tr_grow_21 (by decide) ?_
    refine zz_aload_n C d_Tr_grow_44 rfl rfl ?_
    refine zz_dup C d_Tr_grow_45 rfl ?_
    refine zz_get C d_Tr_grow_46 zf_Tr_17 ((hR _).trans rfl) rfl ?_
    refine zz_iconst (v := 1) C d_Tr_grow_49 (by decide) ?_
    refine zz_iadd C d_Tr_grow_50 ?_
    refine zz_putI C hR d_Tr_grow_51 zp_Tr_17 rfl rfl rfl (Nat.le_of_ble_eq_true rfl) rfl (fun h hR => ?_)
    refine zz_aload_n C d_Tr_grow_54 rfl rfl ?_
    refine zz_get C d_Tr_grow_55 zf_Tr_11 ((hR _).trans rfl) rfl ?_
    refine zz_aload_n C d_Tr_grow_58 rfl rfl ?_
    refine zz_get C d_Tr_grow_59 zf_Tr_17 ((hR _).trans rfl) rfl ?_
    refine zz_iconst (v := 1) C d_Tr_grow_62 (by decide) ?_
    refine zz_isub C d_Tr_grow_63 ?_
    rw [show va_up μ 14 (upd (μ 14) 1 (μ 14 1 + 1)) 14 1 - 1 = nI sz by rw [va_up_self, pk_us, e1, nI_pred]]
    refine zz_aaldR (k := 15) (n := 600) (j := sz) (q := 100 + 4 * sz) C hR 3 d_Tr_grow_64 (fun _ _ => rfl) rfl rfl rfl (by omega) (by decide) (if_pos hsz) ?_
    refine zz_aret C Z d_Tr_grow_65 (Or.inr ⟨_, rfl⟩) ?_
    exact ⟨rfl, fun _ _ => rfl, by unfold grF; rw [if_pos hsz, ← e1]; exact hR⟩
  · exact absurd (by rw [hS]; exact nI_lt (b := 600) (by omega) (by decide)) c_7
set_option maxRecDepth 100000 in
set_option maxHeartbeats 4000000 in
theorem m_Tr_grow_new {h : zH} (hR : zRep E ad al μ pa h) (hS : μ 14 1 = nI al) (hal : al < 600) : zMet l y_Tr_grow b_Tr_grow 1 (some (.object "BranchTrees$Node")) (gR 3 1) E [.ref (ad 14)] ad h (gPost E ad al (fun ad' => some (.ref (ad' (100 + 4 * al)))) (al + 1) (grF μ al al) pa) := by
  refine zMet.of (L := [some (.ref (ad 14))]) (by decide +kernel) (Nat.le_of_ble_eq_true rfl) rfl 0 rfl fun X hl C Z => ?_
  have e1 : μ 14 1 + 1 = nI (al + 1) := by rw [hS, nI_1]
  have H14 : zg h 14 = some (.inr (9, [.ref (ad 15), .int (μ 14 1), .int (μ 14 2)])) := hR 14
  have H15 : zg h 15 = some (.inl (E.2 3, 600, .inr (.inr (.inr (.inr (fun j => if j < al then some (ad (100 + 4 * j)) else none)))))) := hR 15
  have N0 : zg h (100 + 4 * al) = none := (hR _).trans (zb_none (by omega) _ _)
  have N1 : zg h (100 + 4 * al + 1) = none := (hR _).trans (zb_none (by omega) _ _)
  have N2 : zg h (100 + 4 * al + 2) = none := (hR _).trans (zb_none (by omega) _ _)
  have N3 : zg h (100 + 4 * al + 3) = none := (hR _).trans (zb_none (by omega) _ _)
  refine zz_aload_n C d_Tr_grow_0 rfl rfl ?_
  refine zz_get C d_Tr_grow_1 zf_Tr_17 ((hR _).trans rfl) rfl ?_
  refine zz_sipush (v := 600) C d_Tr_grow_4 (by decide) ?_
  refine zz_icmp_lt (tgt := 12) C d_Tr_grow_7 (by decide) (fun c_7 => ?_) (fun c_7 => ?_)
  · refine zz_aload_n C d_Tr_grow_12 rfl rfl ?_
    refine zz_get C d_Tr_grow_13 zf_Tr_11 ((hR _).trans rfl) rfl ?_
    refine zz_aload_n C d_Tr_grow_16 rfl rfl ?_
    refine zz_get C d_Tr_grow_17 zf_Tr_17 ((hR _).trans rfl) rfl ?_
    rw [hS]
    refine zz_aald (j := al) C 3 d_Tr_grow_20 H15 rfl rfl rfl (by omega) (by decide) (v := .null) (by rw [if_neg (Nat.lt_irrefl _)]; rfl) ?_
    refine zz_ifnonnullN C d_Tr_grow_21 ?_
    refine zz_aload_n C d_Tr_grow_24 rfl rfl ?_
    refine zz_get C d_Tr_grow_25 zf_Tr_11 ((hR _).trans rfl) rfl ?_
    refine zz_aload_n C d_Tr_grow_28 rfl rfl ?_
    refine zz_get C d_Tr_grow_29 zf_Tr_17 ((hR _).trans rfl) rfl ?_
    rw [hS]
    refine zz_new C (100 + 4 * al) (ci := 4) (fs := [.int 0, .null, .int 0, .int 0, .int 0, .int 0, .int 0, .int 0, .int 0, .int 0, .int 0, .int 0]) (ty := t_Nd) d_Tr_grow_32 ck_Tr_9 in_Nd ii_Nd iw_Nd ty_Nd rfl (nd_dflt) N0 (by decide) (by decide) (fun ad1 h1 g1 e2 f1 => ?_)
    rw [← g1 14 (by omega), ← g1 15 (by omega)]
    have H14 : zg h1 14 = some (.inr (9, [.ref (ad1 15), .int (nI al), .int (μ 14 2)])) := by rw [f1 14 (by omega), H14, hS, g1 15 (by omega)]
    have H15 := (f1 15 (by omega)).trans H15
    refine zz_dup C d_Tr_grow_35 rfl ?_
    refine zz_aload_n C d_Tr_grow_36 rfl rfl ?_
    refine zz_get C d_Tr_grow_37 zf_Tr_17 H14 rfl ?_
    refine zz_callI C d_Tr_grow_40 mk_Tr_24 zy_Nd_init (m_Nd_init (kb := 100 + 4 * al + 1) (kl := 100 + 4 * al + 2) (kh := 100 + 4 * al + 3) e2 ((f1 _ (by omega)).trans N1) ((f1 _ (by omega)).trans N2) ((f1 _ (by omega)).trans N3) (by omega) (by omega) (by omega) (by omega) (by omega) (by omega)) ⟨by decide, by decide⟩ ⟨by decide, by decide⟩ rfl rfl (Nat.le_of_ble_eq_true rfl) (fun r ad2 h2 q => ?_)
    obtain ⟨rfl, g2, en, eb, el, eh, f2⟩ := q
    rw [← g2 14 (by omega) (by omega) (by omega), ← g2 15 (by omega) (by omega) (by omega), ← g2 (100 + 4 * al) (by omega) (by omega) (by omega)]
    have H14 : zg h2 14 = some (.inr (9, [.ref (ad2 15), .int (nI al), .int (μ 14 2)])) := by rw [f2 14 (by omega) (by omega) (by omega) (by omega), H14, g2 15 (by omega) (by omega) (by omega)]
    have H15 := (f2 15 (by omega) (by omega) (by omega) (by omega)).trans H15
    refine zz_aastN C d_Tr_grow_43 H15 en rfl (by omega) (by decide) (fun h3 e3 f3 => ?_)
    have H14 := (f3 14 (by omega)).trans H14
    refine zz_aload_n C d_Tr_grow_44 rfl rfl ?_
    refine zz_dup C d_Tr_grow_45 rfl ?_
    refine zz_get C d_Tr_grow_46 zf_Tr_17 H14 rfl ?_
    refine zz_iconst (v := 1) C d_Tr_grow_49 (by decide) ?_
    refine zz_iadd C d_Tr_grow_50 ?_
    rw [nI_1]
    refine zz_put C d_Tr_grow_51 zp_Tr_17 H14 rfl rfl (Nat.le_of_ble_eq_true rfl) (fun h4 e4 f4 => ?_)
    have H15 := (f4 15 (by omega)).trans e3
    refine zz_aload_n C d_Tr_grow_54 rfl rfl ?_
    refine zz_get C d_Tr_grow_55 zf_Tr_11 e4 rfl ?_
    refine zz_aload_n C d_Tr_grow_58 rfl rfl ?_
    refine zz_get C d_Tr_grow_59 zf_Tr_17 e4 rfl ?_
    refine zz_iconst (v := 1) C d_Tr_grow_62 (by decide) ?_
    refine zz_isub C d_Tr_grow_63 ?_
    rw [nI_pred]
    refine zz_aald (j := al) (v := .ref (ad2 (100 + 4 * al))) C 3 d_Tr_grow_64 H15 rfl rfl rfl (by omega) (by decide) (by rw [va_up_self]; rfl) ?_
    refine zz_aret C Z d_Tr_grow_65 (Or.inr ⟨_, rfl⟩) ?_
    have hag : ∀ k, k < 100 + 4 * al → ad2 k = ad k := fun k hk => by rw [g2 k (by omega) (by omega) (by omega), g1 k (by omega)]
    refine ⟨rfl, hag, fun k => ?_⟩
    have fr : ∀ k, k ≠ 14 → k ≠ 15 → (k < 100 + 4 * al ∨ 100 + 4 * al + 4 ≤ k) → zg h4 k = zg h k := fun k a b c => by rw [f4 k a, f3 k b, f2 k (by omega) (by omega) (by omega) (by omega), f1 k (by omega)]
    have eG : grF μ al al = va_up (va_up (va_up (va_up μ (100 + 4 * al) (fun i => if i = 0 then nI al else 0)) (100 + 4 * al + 2) (fun _ => 0)) (100 + 4 * al + 3) (fun _ => 0)) 14 (upd (μ 14) 1 (nI (al + 1))) := by unfold grF; rw [if_neg (Nat.lt_irrefl _)]
    rw [eG]
    by_cases k14 : k = 14
    · subst k14; rw [va_up_self, e4]; rfl
    rw [va_up_ne _ _ k14]
    by_cases k3 : k = 100 + 4 * al + 3
    · subst k3; rw [va_up_self, f4 _ (by omega), f3 _ (by omega), eh, zb_nd3 E ad2 (Nat.lt_succ_self al)]
    rw [va_up_ne _ _ k3]
    by_cases k2 : k = 100 + 4 * al + 2
    · subst k2; rw [va_up_self, f4 _ (by omega), f3 _ (by omega), el, zb_nd2 E ad2 (Nat.lt_succ_self al)]
    rw [va_up_ne _ _ k2]
    by_cases k0 : k = 100 + 4 * al
    · subst k0; rw [va_up_self, f4 _ (by omega), f3 _ (by omega), en, zb_nd0 E ad2 (Nat.lt_succ_self al)]; rfl
    rw [va_up_ne _ _ k0]
    by_cases k1 : k = 100 + 4 * al + 1
    · subst k1; rw [f4 _ (by omega), f3 _ (by omega), eb, zb_nd1 E ad2 (Nat.lt_succ_self al)]
    by_cases k15 : k = 15
    · subst k15
      rw [H15]
      show some (Sum.inl (E.2 3, 600, Sum.inr (Sum.inr (Sum.inr (Sum.inr (va_up (fun j => if j < al then some (ad (100 + 4 * j)) else none) al (some (ad2 (100 + 4 * al)))))))) ) = some (Sum.inl (E.2 3, 600, Sum.inr (Sum.inr (Sum.inr (Sum.inr (fun j => if j < al + 1 then some (ad2 (100 + 4 * j)) else none))))))
      have : va_up (fun j => if j < al then some (ad (100 + 4 * j)) else none) al (some (ad2 (100 + 4 * al))) = (fun j => if j < al + 1 then some (ad2 (100 + 4 * j)) else none) := by
        funext j
        by_cases q : j = al
        · subst q; rw [va_up_self, if_pos (Nat.lt_succ_self _)]
        · rw [va_up_ne _ _ q]
          by_cases q2 : j < al
          · rw [if_pos q2, if_pos (by omega), hag _ (by omega)]
          · rw [if_neg q2, if_neg (by omega)]
      rw [this]
    rw [fr k k14 k15 (by omega), zb_grow hag k15 (by omega)]
    exact hR k
  · exact absurd (by rw [hS]; exact nI_lt (b := 600) (by omega) (by decide)) c_7
/-- both ways at once -/
theorem m_Tr_grow {h : zH} (hR : zRep E ad al μ pa h) {sz : Nat} (hS : μ 14 1 = nI sz) (hsz : sz ≤ al) (h6 : sz < 600) (hal : al ≤ 600) : zMet l y_Tr_grow b_Tr_grow 1 (some (.object "BranchTrees$Node")) (gR 3 (grA al sz - al)) E [.ref (ad 14)] ad h (gPost E ad al (fun ad' => some (.ref (ad' (100 + 4 * sz)))) (grA al sz) (grF μ al sz) pa) := by
  rcases Nat.lt_or_ge sz al with q | q
  · have e : grA al sz = al := if_pos q
    rw [e, Nat.sub_self]
    exact m_Tr_grow_old hR hS q hal
  · have e0 : sz = al := by omega
    subst e0
    have e : grA sz sz = sz + 1 := if_neg (by omega)
    rw [e, show sz + 1 - sz = 1 by omega]
    exact m_Tr_grow_new hR hS h6
end GROW
