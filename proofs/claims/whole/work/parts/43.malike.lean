/-! MODEL: names that are alike -/
def soL (f g : Nat → Int32) (a b : Nat) : Nat → Nat → Int32
  | 0, _ => 1
  | k + 1, j => if f (swI a b j) = g j then soL f g a b k (j + 1) else 0
theorem swL_01 {f g : Nat → Int32} {a b : Nat} : ∀ k j, swL f g a b k j = 0 ∨ swL f g a b k j = 1
  | 0, j => Or.inr rfl
  | k + 1, j => by
    unfold swL
    split
    · exact swL_01 k (j + 1)
    · exact Or.inl rfl
theorem soL_01 {f g : Nat → Int32} {a b : Nat} : ∀ k j, soL f g a b k j = 0 ∨ soL f g a b k j = 1
  | 0, j => Or.inr rfl
  | k + 1, j => by
    unfold soL
    split
    · exact soL_01 k (j + 1)
    · exact Or.inl rfl
theorem swL_1 {f g : Nat → Int32} {a b : Nat} : ∀ k j, swL f g a b k j = 1 ↔ ∀ i, j ≤ i → i < j + k → f i = g (swI a b i)
  | 0, j => ⟨fun _ i h1 h2 => by omega, fun _ => rfl⟩
  | k + 1, j => by
    unfold swL
    by_cases c : f j = g (swI a b j)
    · rw [if_pos c, swL_1 k (j + 1)]
      constructor
      · intro h i h1 h2
        by_cases e : i = j
        · subst e; exact c
        · exact h i (by omega) (by omega)
      · intro h i h1 h2; exact h i (by omega) (by omega)
    · rw [if_neg c]
      constructor
      · intro h; exact absurd h (by decide)
      · intro h; exact absurd (h j (Nat.le_refl _) (by omega)) c
theorem soL_1 {f g : Nat → Int32} {a b : Nat} : ∀ k j, soL f g a b k j = 1 ↔ ∀ i, j ≤ i → i < j + k → f (swI a b i) = g i
  | 0, j => ⟨fun _ i h1 h2 => by omega, fun _ => rfl⟩
  | k + 1, j => by
    unfold soL
    by_cases c : f (swI a b j) = g j
    · rw [if_pos c, soL_1 k (j + 1)]
      constructor
      · intro h i h1 h2
        by_cases e : i = j
        · subst e; exact c
        · exact h i (by omega) (by omega)
      · intro h i h1 h2; exact h i (by omega) (by omega)
    · rw [if_neg c]
      constructor
      · intro h; exact absurd h (by decide)
      · intro h; exact absurd (h j (Nat.le_refl _) (by omega)) c
theorem swI_swI {a b j : Nat} : swI a b (swI a b j) = j := by
  unfold swI
  by_cases c : j = a
  · subst c
    rw [if_pos rfl]
    by_cases d : b = j
    · rw [if_pos d]; exact d
    · rw [if_neg d, if_pos rfl]
  · rw [if_neg c]
    by_cases d : j = b
    · subst d; rw [if_pos rfl, if_pos rfl]
    · rw [if_neg d, if_neg c, if_neg d]
theorem swI_ge {a b j n : Nat} (ha : a < n) (hb : b < n) (hj : n ≤ j) : swI a b j = j := by
  unfold swI; rw [if_neg (by omega), if_neg (by omega)]
theorem so_sw {f g : Nat → Int32} {a b n : Nat} (ha : a < n) (hb : b < n) (hn : n ≤ 8) (hf : ∀ k, n ≤ k → k < 8 → f k = 0) (hg : ∀ k, n ≤ k → k < 8 → g k = 0) : soL f g a b 8 0 = swL f g a b n 0 := by
  have h : soL f g a b 8 0 = 1 ↔ swL f g a b n 0 = 1 := by
    rw [soL_1, swL_1]
    constructor
    · intro h i _ h2
      have := h (swI a b i) (Nat.zero_le _) (by have := swI_lt ha hb (show i < n by omega); omega)
      rw [swI_swI] at this
      exact this
    · intro h i _ h2
      by_cases c : i < n
      · have := h (swI a b i) (Nat.zero_le _) (by have := swI_lt ha hb c; omega)
        rw [swI_swI] at this
        exact this
      · rw [swI_ge ha hb (by omega), hf i (by omega) (by omega), hg i (by omega) (by omega)]
  rcases soL_01 (f := f) (g := g) (a := a) (b := b) 8 0 with h1 | h1
  · rcases swL_01 (f := f) (g := g) (a := a) (b := b) n 0 with h2 | h2
    · rw [h1, h2]
    · rw [h.mpr h2] at h1; exact absurd h1 (by decide)
  · rw [h1, h.mp h1]
theorem soL_congr {f g f' g' : Nat → Int32} {a b : Nat} (hf : ∀ k, k < 8 → f k = f' k) (hg : ∀ k, k < 8 → g k = g' k) (ha : a < 8) (hb : b < 8) : ∀ k j, j + k ≤ 8 → soL f g a b k j = soL f' g' a b k j
  | 0, _, _ => rfl
  | k + 1, j, h => by
    unfold soL
    rw [hf _ (swI_lt ha hb (show j < 8 by omega)), hg j (by omega), soL_congr hf hg ha hb k (j + 1) (by omega)]
def isO (μ : Nat → Nat → Int32) (r q a b : Nat) : Int32 := if ¬ μ 48 r = μ 48 q then 0 else if ¬ μ 49 r = μ 49 q then 0 else soL (fun k => μ 47 (8 * r + k)) (fun k => μ 47 (8 * q + k)) a b 8 0
theorem isO_F {n rc r q a b : Nat} {V μ : Nat → Nat → Int32} (hI : pI n rc V) (hP : mP n rc V μ) (hr : r < 16) (hq : q < 16) (ha : a < n) (hb : b < n) : isO μ r q a b = isF V n r q a b := by
  have h8 := hI.1.2.2.1
  unfold isO isF
  rw [(hP.2.2.2 r hr).1, (hP.2.2.2 q hq).1, (hP.2.2.2 r hr).2.1, (hP.2.2.2 q hq).2.1]
  rw [soL_congr (f' := V (24 + r)) (g' := V (24 + q)) (fun k hk => (hP.2.2.2 r hr).2.2.2 k hk) (fun k hk => (hP.2.2.2 q hq).2.2.2 k hk) (by omega) (by omega) 8 0 (by omega)]
  rw [so_sw ha hb h8 (fun k h1 h2 => hI.2.2.2.2.2.2 r k hr h1 h2) (fun k h1 h2 => hI.2.2.2.2.2.2 q k hq h1 h2)]
  by_cases c : V 6 r = V 6 q <;> simp [c]
section MALIKE
variable {l : Launch} {E : zE} {ad : Nat → Nat} {al c n rc sz : Nat} {V μ : Nat → Nat → Int32} {pv pa : Nat → Nat → Int64}
set_option maxRecDepth 100000 in
set_option maxHeartbeats 4000000 in
theorem lp0_Mo_isOther {X : zX} {post : Option Value → (Nat → Nat) → zH → Prop} (C : zc X E b_Mo_isOther 8 "BranchTreesModel" (zR 0)) (Z : zr X E (some .boolean) 0 0 post) {r q a b j : Nat} {w : Option Value} {h : zH} (hpost : post (some (.int 0)) ad h) : zz X E 8 ad 0 0 40 [some (.ref (ad 40)), some (.int (nI r)), some (.int (nI q)), some (.int (nI a)), some (.int (nI b)), some (.int (0)), some (.int (nI j)), w] [] h := by
  refine zz_iload C d_Mo_isOther_40 rfl ?_
  refine zz_bipush (v := 8) C d_Mo_isOther_42 (by decide) ?_
  refine zz_icmp_ge (tgt := 118) C d_Mo_isOther_44 (by decide) (fun c_44 => ?_) (fun c_44 => ?_)
  · refine zz_iload C d_Mo_isOther_118 rfl ?_
    refine zz_zret C Z d_Mo_isOther_120 (by first | rfl | decide | assumption) ?_
    exact hpost
  · refine zz_iload C d_Mo_isOther_47 rfl ?_
    refine zz_if_eq (tgt := 118) C d_Mo_isOther_49 (by decide) (fun c_49 => ?_) (fun c_49 => ?_)
    · refine zz_iload C d_Mo_isOther_118 rfl ?_
      refine zz_zret C Z d_Mo_isOther_120 (by first | rfl | decide | assumption) ?_
      exact hpost
    · exact absurd rfl c_49
set_option maxRecDepth 100000 in
set_option maxHeartbeats 4000000 in
theorem lp_Mo_isOther {X : zX} {post : Option Value → (Nat → Nat) → zH → Prop} (C : zc X E b_Mo_isOther 8 "BranchTreesModel" (zR 0)) (Z : zr X E (some .boolean) 0 0 post) {r q a b : Nat} (hr : r < 16) (hq : q < 16) (ha : a < 8) (hb : b < 8) {h : zH} (hR : zRep E ad al μ pa h) {T : Int32} (hpost : post (some (.int T)) ad h) :
    ∀ (d j : Nat) (w : Option Value), 8 - j = d → j ≤ 8 → soL (fun k => μ 47 (8 * r + k)) (fun k => μ 47 (8 * q + k)) a b d j = T → zz X E 8 ad 0 0 40 [some (.ref (ad 40)), some (.int (nI r)), some (.int (nI q)), some (.int (nI a)), some (.int (nI b)), some (.int (1)), some (.int (nI j)), w] [] h := by
  intro d
  induction d with
  | zero =>
    intro j w hd hj hT
    have e : j = 8 := by omega
    subst e
    subst hT
    refine zz_iload C d_Mo_isOther_40 rfl ?_
    refine zz_bipush (v := 8) C d_Mo_isOther_42 (by decide) ?_
    refine zz_icmp_ge (tgt := 118) C d_Mo_isOther_44 (by decide) (fun c_44 => ?_) (fun c_44 => ?_)
    · refine zz_iload C d_Mo_isOther_118 rfl ?_
      refine zz_zret C Z d_Mo_isOther_120 (by first | rfl | decide | assumption) ?_
      exact hpost
    · exact absurd (nI_le (a := 8) (b := 8) (Nat.le_refl _) (by omega)) c_44
  | succ d ih =>
    intro j w hd hj hT
    have hlt : j < 8 := by omega
    have hs : swI a b j < 8 := swI_lt ha hb hlt
    have K78 : ∀ w : Option Value, zz X E 8 ad 0 0 76 [some (.ref (ad 40)), some (.int (nI r)), some (.int (nI q)), some (.int (nI a)), some (.int (nI b)), some (.int (1)), some (.int (nI j)), w] [.int (nI (swI a b j))] h := by
      intro w
      unfold soL at hT
      refine zz_istore C d_Mo_isOther_76 (by decide) rfl ?_
      refine zz_aload_n C d_Mo_isOther_78 rfl rfl ?_
      refine zz_get C d_Mo_isOther_79 zf_Mo_33 ((hR _).trans rfl) rfl ?_
      refine zz_bipush (v := 8) C d_Mo_isOther_82 (by decide) ?_
      refine zz_iload_n C d_Mo_isOther_84 rfl rfl ?_
      refine zz_imul C d_Mo_isOther_85 ?_
      refine zz_iload C d_Mo_isOther_86 rfl ?_
      refine zz_iadd C d_Mo_isOther_88 ?_
      refine zz_ialdR (j := 8 * r + swI a b j) C hR d_Mo_isOther_89 (fun _ _ => rfl) (ix8 r _) (by omega) (by decide) ?_
      refine zz_aload_n C d_Mo_isOther_90 rfl rfl ?_
      refine zz_get C d_Mo_isOther_91 zf_Mo_33 ((hR _).trans rfl) rfl ?_
      refine zz_bipush (v := 8) C d_Mo_isOther_94 (by decide) ?_
      refine zz_iload_n C d_Mo_isOther_96 rfl rfl ?_
      refine zz_imul C d_Mo_isOther_97 ?_
      refine zz_iload C d_Mo_isOther_98 rfl ?_
      refine zz_iadd C d_Mo_isOther_100 ?_
      refine zz_ialdR (j := 8 * q + j) C hR d_Mo_isOther_101 (fun _ _ => rfl) (ix8 q j) (by omega) (by decide) ?_
      refine zz_icmp_ne (tgt := 109) C d_Mo_isOther_102 (by decide) (fun c_102 => ?_) (fun c_102 => ?_)
      · rw [if_neg c_102] at hT
        subst hT
        refine zz_iconst (v := 0) C d_Mo_isOther_109 (by decide) ?_
        refine zz_istore C d_Mo_isOther_110 (by decide) rfl ?_
        refine zz_iinc C d_Mo_isOther_112 rfl (nI_inc _) (by decide) rfl ?_
        refine zz_goto (tgt := 40) C d_Mo_isOther_115 (by decide) ?_
        first | exact ih (j + 1) _ (by omega) (by omega) hT | exact lp0_Mo_isOther C Z hpost
      · rw [if_pos c_102] at hT
        refine zz_iconst (v := 1) C d_Mo_isOther_105 (by decide) ?_
        refine zz_goto (tgt := 110) C d_Mo_isOther_106 (by decide) ?_
        refine zz_istore C d_Mo_isOther_110 (by decide) rfl ?_
        refine zz_iinc C d_Mo_isOther_112 rfl (nI_inc _) (by decide) rfl ?_
        refine zz_goto (tgt := 40) C d_Mo_isOther_115 (by decide) ?_
        first | exact ih (j + 1) _ (by omega) (by omega) hT | exact lp0_Mo_isOther C Z hpost
    refine zz_iload C d_Mo_isOther_40 rfl ?_
    refine zz_bipush (v := 8) C d_Mo_isOther_42 (by decide) ?_
    refine zz_icmp_ge (tgt := 118) C d_Mo_isOther_44 (by decide) (fun c_44 => ?_) (fun c_44 => ?_)
    · exact absurd c_44 (nI_ge (b := 8) hlt (by omega))
    · refine zz_iload C d_Mo_isOther_47 rfl ?_
      refine zz_if_eq (tgt := 118) C d_Mo_isOther_49 (by decide) (fun c_49 => ?_) (fun c_49 => ?_)
      · exact absurd c_49 (by decide)
      · refine zz_iload C d_Mo_isOther_52 rfl ?_
        refine zz_iload_n C d_Mo_isOther_54 rfl rfl ?_
        refine zz_icmp_ne (tgt := 63) C d_Mo_isOther_55 (by decide) (fun c_55 => ?_) (fun c_55 => ?_)
        · refine zz_iload C d_Mo_isOther_63 rfl ?_
          refine zz_iload C d_Mo_isOther_65 rfl ?_
          refine zz_icmp_ne (tgt := 74) C d_Mo_isOther_67 (by decide) (fun c_67 => ?_) (fun c_67 => ?_)
          · refine zz_iload C d_Mo_isOther_74 rfl ?_
            have f1 : ¬ j = a := fun z => c_55 (by rw [z])
            have f2 : ¬ j = b := fun z => c_67 (by rw [z])
            have K := K78 w
            rw [show swI a b j = j by unfold swI; rw [if_neg f1, if_neg f2]] at K
            exact K
          · have e2 : j = b := (nI_eq (by omega) (by omega)).mp c_67
            refine zz_iload_n C d_Mo_isOther_70 rfl rfl ?_
            refine zz_goto (tgt := 76) C d_Mo_isOther_71 (by decide) ?_
            have f1 : ¬ j = a := fun z => c_55 (by rw [z])
            have K := K78 w
            rw [show swI a b j = a by unfold swI; rw [if_neg f1, if_pos e2]] at K
            exact K
        · have e : j = a := (nI_eq (by omega) (by omega)).mp c_55
          refine zz_iload C d_Mo_isOther_58 rfl ?_
          refine zz_goto (tgt := 76) C d_Mo_isOther_60 (by decide) ?_
          have K := K78 w
          rw [show swI a b j = b by unfold swI; rw [if_pos e]] at K
          exact K
set_option maxRecDepth 100000 in
set_option maxHeartbeats 4000000 in
theorem m_Mo_isOther {r q a b : Nat} (hr : r < 16) (hq : q < 16) (ha : a < 8) (hb : b < 8) : rMet l y_Mo_isOther b_Mo_isOther 8 (some .boolean) (zR 0) E [.ref (ad 40), .int (nI r), .int (nI q), .int (nI a), .int (nI b)] ad al μ pa (.int (isO μ r q a b)) := by
  intro h hR
  refine zMet.of (L := [some (.ref (ad 40)), some (.int (nI r)), some (.int (nI q)), some (.int (nI a)), some (.int (nI b)), none, none, none]) (by decide +kernel) (Nat.le_of_ble_eq_true rfl) rfl 3 rfl fun X hl C Z => ?_
  refine zz_aload_n C d_Mo_isOther_0 rfl rfl ?_
  refine zz_get C d_Mo_isOther_1 zf_Mo_36 ((hR _).trans rfl) rfl ?_
  refine zz_iload_n C d_Mo_isOther_4 rfl rfl ?_
  refine zz_ialdR (j := r) C hR d_Mo_isOther_5 (fun _ _ => rfl) rfl (by omega) (by decide) ?_
  refine zz_aload_n C d_Mo_isOther_6 rfl rfl ?_
  refine zz_get C d_Mo_isOther_7 zf_Mo_36 ((hR _).trans rfl) rfl ?_
  refine zz_iload_n C d_Mo_isOther_10 rfl rfl ?_
  refine zz_ialdR (j := q) C hR d_Mo_isOther_11 (fun _ _ => rfl) rfl (by omega) (by decide) ?_
  refine zz_icmp_ne (tgt := 34) C d_Mo_isOther_12 (by decide) (fun c_12 => ?_) (fun c_12 => ?_)
  · refine zz_iconst (v := 0) C d_Mo_isOther_34 (by decide) ?_
    refine zz_istore C d_Mo_isOther_35 (by decide) rfl ?_
    refine zz_iconst (v := 0) C d_Mo_isOther_37 (by decide) ?_
    refine zz_istore C d_Mo_isOther_38 (by decide) rfl ?_
    first | exact lp_Mo_isOther C Z hr hq ha hb hR ⟨rfl, rfl, rfl⟩ 8 0 _ rfl (by omega) (by simp only [isO, c_12, if_true, if_false, not_true_eq_false, not_false_eq_true]) | exact lp0_Mo_isOther C Z (j := 0) ⟨by simp only [isO, c_12, if_true, if_false, not_true_eq_false, not_false_eq_true], rfl, rfl⟩
  · refine zz_aload_n C d_Mo_isOther_15 rfl rfl ?_
    refine zz_get C d_Mo_isOther_16 zf_Mo_39 ((hR _).trans rfl) rfl ?_
    refine zz_iload_n C d_Mo_isOther_19 rfl rfl ?_
    refine zz_ialdR (j := r) C hR d_Mo_isOther_20 (fun _ _ => rfl) rfl (by omega) (by decide) ?_
    refine zz_aload_n C d_Mo_isOther_21 rfl rfl ?_
    refine zz_get C d_Mo_isOther_22 zf_Mo_39 ((hR _).trans rfl) rfl ?_
    refine zz_iload_n C d_Mo_isOther_25 rfl rfl ?_
    refine zz_ialdR (j := q) C hR d_Mo_isOther_26 (fun _ _ => rfl) rfl (by omega) (by decide) ?_
    refine zz_icmp_ne (tgt := 34) C d_Mo_isOther_27 (by decide) (fun c_27 => ?_) (fun c_27 => ?_)
    · refine zz_iconst (v := 0) C d_Mo_isOther_34 (by decide) ?_
      refine zz_istore C d_Mo_isOther_35 (by decide) rfl ?_
      refine zz_iconst (v := 0) C d_Mo_isOther_37 (by decide) ?_
      refine zz_istore C d_Mo_isOther_38 (by decide) rfl ?_
      first | exact lp_Mo_isOther C Z hr hq ha hb hR ⟨rfl, rfl, rfl⟩ 8 0 _ rfl (by omega) (by simp only [isO, c_12, c_27, if_true, if_false, not_true_eq_false, not_false_eq_true]) | exact lp0_Mo_isOther C Z (j := 0) ⟨by simp only [isO, c_12, c_27, if_true, if_false, not_true_eq_false, not_false_eq_true], rfl, rfl⟩
    · refine zz_iconst (v := 1) C d_Mo_isOther_30 (by decide) ?_
      refine zz_goto (tgt := 35) C d_Mo_isOther_31 (by decide) ?_
      refine zz_istore C d_Mo_isOther_35 (by decide) rfl ?_
      refine zz_iconst (v := 0) C d_Mo_isOther_37 (by decide) ?_
      refine zz_istore C d_Mo_isOther_38 (by decide) rfl ?_
      first | exact lp_Mo_isOther C Z hr hq ha hb hR ⟨rfl, rfl, rfl⟩ 8 0 _ rfl (by omega) (by simp only [isO, c_12, c_27, if_true, if_false, not_true_eq_false, not_false_eq_true]) | exact lp0_Mo_isOther C Z (j := 0) ⟨by simp only [isO, c_12, c_27, if_true, if_false, not_true_eq_false, not_false_eq_true], rfl, rfl⟩
theorem i1 : Int32.ofInt 1 = 1 := by decide
set_option maxRecDepth 100000 in
set_option maxHeartbeats 4000000 in
theorem lq_Mo_areAlike {X : zX} {post : Option Value → (Nat → Nat) → zH → Prop} (C : zc X E b_Mo_areAlike 7 "BranchTreesModel" (zR 1)) (Z : zr X E (some .boolean) 0 0 post) (hI : pI n rc V) (hP : mP n rc V μ) {r a b : Nat} (hr : r < rc) (h7 : V 7 r = 0) (ha : a < n) (hb : b < n) {h : zH} (hR : zRep E ad al μ pa h) (kx : zz X E 7 ad 0 0 156 [some (.ref (ad 40)), some (.int (nI a)), some (.int (nI b)), some (.int (nI r)), some (.int (tfF V n r a a rc)), some (.int (tfF V n r a b rc)), some (.int (nI rc))] [] h) :
    ∀ (d i : Nat), rc - i = d → i ≤ rc → zz X E 7 ad 0 0 66 [some (.ref (ad 40)), some (.int (nI a)), some (.int (nI b)), some (.int (nI r)), some (.int (tfF V n r a a i)), some (.int (tfF V n r a b i)), some (.int (nI i))] [] h := by
  have h8 := hI.1.2.2.1
  have h16 := hI.1.2.2.2
  intro d
  induction d with
  | zero =>
    intro i hd hi
    have e : i = rc := by omega
    subst e
    refine zz_iload C d_Mo_areAlike_66 rfl ?_
    refine zz_aload_n C d_Mo_areAlike_68 rfl rfl ?_
    refine zz_getV C hR (nI i) _ d_Mo_areAlike_69 zf_Mo_115 rfl rfl hP.2.1 ?_
    refine zz_icmp_ge (tgt := 156) C d_Mo_areAlike_72 (by decide) (fun c_72 => ?_) (fun c_72 => ?_)
    · exact kx
    · exact absurd (nI_le (Nat.le_refl _) (by omega)) c_72
  | succ d ih =>
    intro i hd hi
    have hlt : i < rc := by omega
    have K := ih (i + 1) (by omega) hlt
    have ea : ∀ y, tfF V n r a y (i + 1) = if ¬ V 7 i = 0 then tfF V n r a y i else if isF V n r i a y = 0 then tfF V n r a y i else tfF V n r a y i + 1 := fun y => rfl
    rw [ea, ea] at K
    have f1 := isO_F hI hP (show r < 16 by omega) (show i < 16 by omega) ha ha
    have f2 := isO_F hI hP (show r < 16 by omega) (show i < 16 by omega) ha hb
    refine zz_iload C d_Mo_areAlike_66 rfl ?_
    refine zz_aload_n C d_Mo_areAlike_68 rfl rfl ?_
    refine zz_getV C hR (nI rc) _ d_Mo_areAlike_69 zf_Mo_115 rfl rfl hP.2.1 ?_
    refine zz_icmp_ge (tgt := 156) C d_Mo_areAlike_72 (by decide) (fun c_72 => ?_) (fun c_72 => ?_)
    · exact absurd c_72 (nI_ge hlt (by omega))
    · refine zz_aload_n C d_Mo_areAlike_75 rfl rfl ?_
      refine zz_get C d_Mo_areAlike_76 zf_Mo_42 ((hR _).trans rfl) rfl ?_
      refine zz_iload_n C d_Mo_areAlike_79 rfl rfl ?_
      refine zz_zaldV (j := r) C hR (V 7 r) d_Mo_areAlike_80 (fun _ _ => rfl) rfl (by omega) (by decide) (hP.2.2.2 r (by omega)).2.2.1 ?_
      refine zz_if_ne (tgt := 156) C d_Mo_areAlike_81 (by decide) (fun c_81 => ?_) (fun c_81 => ?_)
      · exact absurd h7 c_81
      · refine zz_aload_n C d_Mo_areAlike_84 rfl rfl ?_
        refine zz_get C d_Mo_areAlike_85 zf_Mo_42 ((hR _).trans rfl) rfl ?_
        refine zz_iload C d_Mo_areAlike_88 rfl ?_
        refine zz_zaldV (j := i) C hR (V 7 i) d_Mo_areAlike_90 (fun _ _ => rfl) rfl (by omega) (by decide) (hP.2.2.2 i (by omega)).2.2.1 ?_
        refine zz_if_ne (tgt := 113) C d_Mo_areAlike_91 (by decide) (fun c_91 => ?_) (fun c_91 => ?_)
        · refine zz_iload C d_Mo_areAlike_113 rfl ?_
          refine zz_istore C d_Mo_areAlike_115 (by decide) rfl ?_
          refine zz_aload_n C d_Mo_areAlike_117 rfl rfl ?_
          refine zz_get C d_Mo_areAlike_118 zf_Mo_42 ((hR _).trans rfl) rfl ?_
          refine zz_iload C d_Mo_areAlike_121 rfl ?_
          refine zz_zaldV (j := i) C hR (V 7 i) d_Mo_areAlike_123 (fun _ _ => rfl) rfl (by omega) (by decide) (hP.2.2.2 i (by omega)).2.2.1 ?_
          refine zz_if_ne (tgt := 146) C d_Mo_areAlike_124 (by decide) (fun c_124 => ?_) (fun c_124 => ?_)
          · refine zz_iload C d_Mo_areAlike_146 rfl ?_
            refine zz_istore C d_Mo_areAlike_148 (by decide) rfl ?_
            refine zz_iinc C d_Mo_areAlike_150 rfl (nI_inc _) (by decide) rfl ?_
            refine zz_goto (tgt := 66) C d_Mo_areAlike_153 (by decide) ?_
            first | (exfalso; first | exact c_91 c_124 | exact c_124 c_91) | (simp only [c_72, c_81, c_91, c_124, if_true, if_false, not_true_eq_false, not_false_eq_true] at K; exact K)
          · refine zz_aload_n C d_Mo_areAlike_127 rfl rfl ?_
            refine zz_iload_n C d_Mo_areAlike_128 rfl rfl ?_
            refine zz_iload C d_Mo_areAlike_129 rfl ?_
            refine zz_iload_n C d_Mo_areAlike_131 rfl rfl ?_
            refine zz_iload_n C d_Mo_areAlike_132 rfl rfl ?_
            refine zz_callVr (e := 0) C hR d_Mo_areAlike_133 mk_Mo_126 zy_Mo_isOther (m_Mo_isOther (by omega) (by omega) (by omega) (by omega)) ⟨by decide, by decide⟩ ⟨Nat.zero_le _, Nat.zero_le _⟩ rfl rfl rfl rfl (Nat.le_of_ble_eq_true rfl) ?_
            rw [f2]
            refine zz_if_eq (tgt := 146) C d_Mo_areAlike_136 (by decide) (fun c_136 => ?_) (fun c_136 => ?_)
            · refine zz_iload C d_Mo_areAlike_146 rfl ?_
              refine zz_istore C d_Mo_areAlike_148 (by decide) rfl ?_
              refine zz_iinc C d_Mo_areAlike_150 rfl (nI_inc _) (by decide) rfl ?_
              refine zz_goto (tgt := 66) C d_Mo_areAlike_153 (by decide) ?_
              first | (exfalso; first | exact c_91 c_124 | exact c_124 c_91) | (simp only [c_72, c_81, c_91, c_124, c_136, if_true, if_false, not_true_eq_false, not_false_eq_true] at K; exact K)
            · refine zz_iload C d_Mo_areAlike_139 rfl ?_
              refine zz_iconst (v := 1) C d_Mo_areAlike_141 (by decide) ?_
              refine zz_iadd C d_Mo_areAlike_142 ?_
              refine zz_goto (tgt := 148) C d_Mo_areAlike_143 (by decide) ?_
              refine zz_istore C d_Mo_areAlike_148 (by decide) rfl ?_
              refine zz_iinc C d_Mo_areAlike_150 rfl (nI_inc _) (by decide) rfl ?_
              refine zz_goto (tgt := 66) C d_Mo_areAlike_153 (by decide) ?_
              first | (exfalso; first | exact c_91 c_124 | exact c_124 c_91) | (simp only [c_72, c_81, c_91, c_124, c_136, if_true, if_false, not_true_eq_false, not_false_eq_true] at K; exact K)
        · refine zz_aload_n C d_Mo_areAlike_94 rfl rfl ?_
          refine zz_iload_n C d_Mo_areAlike_95 rfl rfl ?_
          refine zz_iload C d_Mo_areAlike_96 rfl ?_
          refine zz_iload_n C d_Mo_areAlike_98 rfl rfl ?_
          refine zz_iload_n C d_Mo_areAlike_99 rfl rfl ?_
          refine zz_callVr (e := 0) C hR d_Mo_areAlike_100 mk_Mo_126 zy_Mo_isOther (m_Mo_isOther (by omega) (by omega) (by omega) (by omega)) ⟨by decide, by decide⟩ ⟨Nat.zero_le _, Nat.zero_le _⟩ rfl rfl rfl rfl (Nat.le_of_ble_eq_true rfl) ?_
          rw [f1]
          refine zz_if_eq (tgt := 113) C d_Mo_areAlike_103 (by decide) (fun c_103 => ?_) (fun c_103 => ?_)
          · refine zz_iload C d_Mo_areAlike_113 rfl ?_
            refine zz_istore C d_Mo_areAlike_115 (by decide) rfl ?_
            refine zz_aload_n C d_Mo_areAlike_117 rfl rfl ?_
            refine zz_get C d_Mo_areAlike_118 zf_Mo_42 ((hR _).trans rfl) rfl ?_
            refine zz_iload C d_Mo_areAlike_121 rfl ?_
            refine zz_zaldV (j := i) C hR (V 7 i) d_Mo_areAlike_123 (fun _ _ => rfl) rfl (by omega) (by decide) (hP.2.2.2 i (by omega)).2.2.1 ?_
            refine zz_if_ne (tgt := 146) C d_Mo_areAlike_124 (by decide) (fun c_124 => ?_) (fun c_124 => ?_)
            · refine zz_iload C d_Mo_areAlike_146 rfl ?_
              refine zz_istore C d_Mo_areAlike_148 (by decide) rfl ?_
              refine zz_iinc C d_Mo_areAlike_150 rfl (nI_inc _) (by decide) rfl ?_
              refine zz_goto (tgt := 66) C d_Mo_areAlike_153 (by decide) ?_
              first | (exfalso; first | exact c_91 c_124 | exact c_124 c_91) | (simp only [c_72, c_81, c_91, c_103, c_124, if_true, if_false, not_true_eq_false, not_false_eq_true] at K; exact K)
            · refine zz_aload_n C d_Mo_areAlike_127 rfl rfl ?_
              refine zz_iload_n C d_Mo_areAlike_128 rfl rfl ?_
              refine zz_iload C d_Mo_areAlike_129 rfl ?_
              refine zz_iload_n C d_Mo_areAlike_131 rfl rfl ?_
              refine zz_iload_n C d_Mo_areAlike_132 rfl rfl ?_
              refine zz_callVr (e := 0) C hR d_Mo_areAlike_133 mk_Mo_126 zy_Mo_isOther (m_Mo_isOther (by omega) (by omega) (by omega) (by omega)) ⟨by decide, by decide⟩ ⟨Nat.zero_le _, Nat.zero_le _⟩ rfl rfl rfl rfl (Nat.le_of_ble_eq_true rfl) ?_
              rw [f2]
              refine zz_if_eq (tgt := 146) C d_Mo_areAlike_136 (by decide) (fun c_136 => ?_) (fun c_136 => ?_)
              · refine zz_iload C d_Mo_areAlike_146 rfl ?_
                refine zz_istore C d_Mo_areAlike_148 (by decide) rfl ?_
                refine zz_iinc C d_Mo_areAlike_150 rfl (nI_inc _) (by decide) rfl ?_
                refine zz_goto (tgt := 66) C d_Mo_areAlike_153 (by decide) ?_
                first | (exfalso; first | exact c_91 c_124 | exact c_124 c_91) | (simp only [c_72, c_81, c_91, c_103, c_124, c_136, if_true, if_false, not_true_eq_false, not_false_eq_true] at K; exact K)
              · refine zz_iload C d_Mo_areAlike_139 rfl ?_
                refine zz_iconst (v := 1) C d_Mo_areAlike_141 (by decide) ?_
                refine zz_iadd C d_Mo_areAlike_142 ?_
                refine zz_goto (tgt := 148) C d_Mo_areAlike_143 (by decide) ?_
                refine zz_istore C d_Mo_areAlike_148 (by decide) rfl ?_
                refine zz_iinc C d_Mo_areAlike_150 rfl (nI_inc _) (by decide) rfl ?_
                refine zz_goto (tgt := 66) C d_Mo_areAlike_153 (by decide) ?_
                first | (exfalso; first | exact c_91 c_124 | exact c_124 c_91) | (simp only [c_72, c_81, c_91, c_103, c_124, c_136, if_true, if_false, not_true_eq_false, not_false_eq_true] at K; exact K)
          · refine zz_iload C d_Mo_areAlike_106 rfl ?_
            refine zz_iconst (v := 1) C d_Mo_areAlike_108 (by decide) ?_
            refine zz_iadd C d_Mo_areAlike_109 ?_
            refine zz_goto (tgt := 115) C d_Mo_areAlike_110 (by decide) ?_
            refine zz_istore C d_Mo_areAlike_115 (by decide) rfl ?_
            refine zz_aload_n C d_Mo_areAlike_117 rfl rfl ?_
            refine zz_get C d_Mo_areAlike_118 zf_Mo_42 ((hR _).trans rfl) rfl ?_
            refine zz_iload C d_Mo_areAlike_121 rfl ?_
            refine zz_zaldV (j := i) C hR (V 7 i) d_Mo_areAlike_123 (fun _ _ => rfl) rfl (by omega) (by decide) (hP.2.2.2 i (by omega)).2.2.1 ?_
            refine zz_if_ne (tgt := 146) C d_Mo_areAlike_124 (by decide) (fun c_124 => ?_) (fun c_124 => ?_)
            · refine zz_iload C d_Mo_areAlike_146 rfl ?_
              refine zz_istore C d_Mo_areAlike_148 (by decide) rfl ?_
              refine zz_iinc C d_Mo_areAlike_150 rfl (nI_inc _) (by decide) rfl ?_
              refine zz_goto (tgt := 66) C d_Mo_areAlike_153 (by decide) ?_
              first | (exfalso; first | exact c_91 c_124 | exact c_124 c_91) | (simp only [c_72, c_81, c_91, c_103, c_124, if_true, if_false, not_true_eq_false, not_false_eq_true] at K; exact K)
            · refine zz_aload_n C d_Mo_areAlike_127 rfl rfl ?_
              refine zz_iload_n C d_Mo_areAlike_128 rfl rfl ?_
              refine zz_iload C d_Mo_areAlike_129 rfl ?_
              refine zz_iload_n C d_Mo_areAlike_131 rfl rfl ?_
              refine zz_iload_n C d_Mo_areAlike_132 rfl rfl ?_
              refine zz_callVr (e := 0) C hR d_Mo_areAlike_133 mk_Mo_126 zy_Mo_isOther (m_Mo_isOther (by omega) (by omega) (by omega) (by omega)) ⟨by decide, by decide⟩ ⟨Nat.zero_le _, Nat.zero_le _⟩ rfl rfl rfl rfl (Nat.le_of_ble_eq_true rfl) ?_
              rw [f2]
              refine zz_if_eq (tgt := 146) C d_Mo_areAlike_136 (by decide) (fun c_136 => ?_) (fun c_136 => ?_)
              · refine zz_iload C d_Mo_areAlike_146 rfl ?_
                refine zz_istore C d_Mo_areAlike_148 (by decide) rfl ?_
                refine zz_iinc C d_Mo_areAlike_150 rfl (nI_inc _) (by decide) rfl ?_
                refine zz_goto (tgt := 66) C d_Mo_areAlike_153 (by decide) ?_
                first | (exfalso; first | exact c_91 c_124 | exact c_124 c_91) | (simp only [c_72, c_81, c_91, c_103, c_124, c_136, if_true, if_false, not_true_eq_false, not_false_eq_true] at K; exact K)
              · refine zz_iload C d_Mo_areAlike_139 rfl ?_
                refine zz_iconst (v := 1) C d_Mo_areAlike_141 (by decide) ?_
                refine zz_iadd C d_Mo_areAlike_142 ?_
                refine zz_goto (tgt := 148) C d_Mo_areAlike_143 (by decide) ?_
                refine zz_istore C d_Mo_areAlike_148 (by decide) rfl ?_
                refine zz_iinc C d_Mo_areAlike_150 rfl (nI_inc _) (by decide) rfl ?_
                refine zz_goto (tgt := 66) C d_Mo_areAlike_153 (by decide) ?_
                first | (exfalso; first | exact c_91 c_124 | exact c_124 c_91) | (simp only [c_72, c_81, c_91, c_103, c_124, c_136, if_true, if_false, not_true_eq_false, not_false_eq_true] at K; exact K)
set_option maxRecDepth 100000 in
set_option maxHeartbeats 4000000 in
theorem lp_Mo_areAlike {X : zX} {post : Option Value → (Nat → Nat) → zH → Prop} (C : zc X E b_Mo_areAlike 7 "BranchTreesModel" (zR 1)) (Z : zr X E (some .boolean) 0 0 post) (hI : pI n rc V) (hP : mP n rc V μ) {a b : Nat} (ha : a < n) (hb : b < n) {h : zH} (hR : zRep E ad al μ pa h) {T : Int32} (hpost : post (some (.int T)) ad h) :
    ∀ (d r : Nat) (w4 w5 w6 : Option Value), rc - r = d → r ≤ rc → csL V n rc a b d r = T → zz X E 7 ad 0 0 49 [some (.ref (ad 40)), some (.int (nI a)), some (.int (nI b)), some (.int (nI r)), w4, w5, w6] [] h := by
  have h8 := hI.1.2.2.1
  have h16 := hI.1.2.2.2
  intro d
  induction d with
  | zero =>
    intro r w4 w5 w6 hd hr hT
    have e : r = rc := by omega
    subst e
    subst hT
    refine zz_iload_n C d_Mo_areAlike_49 rfl rfl ?_
    refine zz_aload_n C d_Mo_areAlike_50 rfl rfl ?_
    refine zz_getV C hR (nI r) _ d_Mo_areAlike_51 zf_Mo_115 rfl rfl hP.2.1 ?_
    refine zz_icmp_ge (tgt := 171) C d_Mo_areAlike_54 (by decide) (fun c_54 => ?_) (fun c_54 => ?_)
    · refine zz_iconst (v := 1) C d_Mo_areAlike_171 (by decide) ?_
      refine zz_zret C Z d_Mo_areAlike_172 (by first | rfl | decide | assumption) ?_
      exact hpost
    · exact absurd (nI_le (Nat.le_refl _) (by omega)) c_54
  | succ d ih =>
    intro r w4 w5 w6 hd hr hT
    have hlt : r < rc := by omega
    have K := fun w4 w5 w6 => ih (r + 1) w4 w5 w6 (by omega) hlt
    unfold csL at hT
    refine zz_iload_n C d_Mo_areAlike_49 rfl rfl ?_
    refine zz_aload_n C d_Mo_areAlike_50 rfl rfl ?_
    refine zz_getV C hR (nI rc) _ d_Mo_areAlike_51 zf_Mo_115 rfl rfl hP.2.1 ?_
    refine zz_icmp_ge (tgt := 171) C d_Mo_areAlike_54 (by decide) (fun c_54 => ?_) (fun c_54 => ?_)
    · exact absurd c_54 (nI_ge hlt (by omega))
    · refine zz_iconst (v := 0) C d_Mo_areAlike_57 (by decide) ?_
      refine zz_istore C d_Mo_areAlike_58 (by decide) rfl ?_
      refine zz_iconst (v := 0) C d_Mo_areAlike_60 (by decide) ?_
      refine zz_istore C d_Mo_areAlike_61 (by decide) rfl ?_
      refine zz_iconst (v := 0) C d_Mo_areAlike_63 (by decide) ?_
      refine zz_istore C d_Mo_areAlike_64 (by decide) rfl ?_
      by_cases h7 : V 7 r = 0
      · rw [if_neg (fun z => z h7)] at hT
        refine lq_Mo_areAlike C Z hI hP hlt h7 ha hb hR ?_ rc 0 rfl (Nat.zero_le _)
        refine zz_iload C d_Mo_areAlike_156 rfl ?_
        refine zz_iload C d_Mo_areAlike_158 rfl ?_
        refine zz_icmp_eq (tgt := 165) C d_Mo_areAlike_160 (by decide) (fun c_160 => ?_) (fun c_160 => ?_)
        · rw [if_pos c_160.symm] at hT
          refine zz_iinc C d_Mo_areAlike_165 rfl (nI_inc _) (by decide) rfl ?_
          refine zz_goto (tgt := 49) C d_Mo_areAlike_168 (by decide) ?_
          exact K _ _ _ hT
        · rw [if_neg (fun z => c_160 z.symm)] at hT
          subst hT
          refine zz_iconst (v := 0) C d_Mo_areAlike_163 (by decide) ?_
          refine zz_zret C Z d_Mo_areAlike_164 (by first | rfl | decide | assumption) ?_
          exact hpost
      · rw [if_pos h7] at hT
        refine zz_iload C d_Mo_areAlike_66 rfl ?_
        refine zz_aload_n C d_Mo_areAlike_68 rfl rfl ?_
        refine zz_getV C hR (nI rc) _ d_Mo_areAlike_69 zf_Mo_115 rfl rfl hP.2.1 ?_
        refine zz_icmp_ge (tgt := 156) C d_Mo_areAlike_72 (by decide) (fun c_72 => ?_) (fun c_72 => ?_)
        · exact absurd c_72 (nI_ge (a := 0) (by omega) (by omega))
        · refine zz_aload_n C d_Mo_areAlike_75 rfl rfl ?_
          refine zz_get C d_Mo_areAlike_76 zf_Mo_42 ((hR _).trans rfl) rfl ?_
          refine zz_iload_n C d_Mo_areAlike_79 rfl rfl ?_
          refine zz_zaldV (j := r) C hR (V 7 r) d_Mo_areAlike_80 (fun _ _ => rfl) rfl (by omega) (by decide) (hP.2.2.2 r (by omega)).2.2.1 ?_
          refine zz_if_ne (tgt := 156) C d_Mo_areAlike_81 (by decide) (fun c_81 => ?_) (fun c_81 => ?_)
          · refine zz_iload C d_Mo_areAlike_156 rfl ?_
            refine zz_iload C d_Mo_areAlike_158 rfl ?_
            refine zz_icmp_eq (tgt := 165) C d_Mo_areAlike_160 (by decide) (fun c_160 => ?_) (fun c_160 => ?_)
            · refine zz_iinc C d_Mo_areAlike_165 rfl (nI_inc _) (by decide) rfl ?_
              refine zz_goto (tgt := 49) C d_Mo_areAlike_168 (by decide) ?_
              exact K _ _ _ hT
            · exact absurd rfl c_160
          · exact absurd c_81 h7
set_option maxRecDepth 100000 in
set_option maxHeartbeats 4000000 in
theorem m_Mo_areAlike (hI : pI n rc V) (hP : mP n rc V μ) {a b : Nat} (ha : a < n) (hb : b < n) : rMet l y_Mo_areAlike b_Mo_areAlike 7 (some .boolean) (zR 1) E [.ref (ad 40), .int (nI a), .int (nI b)] ad al μ pa (.int (csF V n rc a b)) := by
  intro h hR
  refine zMet.of (L := [some (.ref (ad 40)), some (.int (nI a)), some (.int (nI b)), none, none, none, none]) (by decide +kernel) (Nat.le_of_ble_eq_true rfl) rfl 4 rfl fun X hl C Z => ?_
  have h8 := hI.1.2.2.1
  have h16 := hI.1.2.2.2
  refine zz_aload_n C d_Mo_areAlike_0 rfl rfl ?_
  refine zz_get C d_Mo_areAlike_1 zf_Mo_13 ((hR _).trans rfl) rfl ?_
  refine zz_iload_n C d_Mo_areAlike_4 rfl rfl ?_
  refine zz_ialdV (j := a) C hR (V 2 a) d_Mo_areAlike_5 (fun _ _ => rfl) rfl (by omega) (by decide) (hP.2.2.1 a (by omega)).1 ?_
  refine zz_aload_n C d_Mo_areAlike_6 rfl rfl ?_
  refine zz_get C d_Mo_areAlike_7 zf_Mo_13 ((hR _).trans rfl) rfl ?_
  refine zz_iload_n C d_Mo_areAlike_10 rfl rfl ?_
  refine zz_ialdV (j := b) C hR (V 2 b) d_Mo_areAlike_11 (fun _ _ => rfl) rfl (by omega) (by decide) (hP.2.2.1 b (by omega)).1 ?_
  refine zz_icmp_ne (tgt := 45) C d_Mo_areAlike_12 (by decide) (fun c_12 => ?_) (fun c_12 => ?_)
  · refine zz_iconst (v := 0) C d_Mo_areAlike_45 (by decide) ?_
    refine zz_zret C Z d_Mo_areAlike_46 (by first | rfl | decide | assumption) ?_
    exact ⟨by simp only [csF, c_12, if_true, if_false, not_true_eq_false, not_false_eq_true], rfl, rfl⟩
  · refine zz_aload_n C d_Mo_areAlike_15 rfl rfl ?_
    refine zz_get C d_Mo_areAlike_16 zf_Mo_17 ((hR _).trans rfl) rfl ?_
    refine zz_iload_n C d_Mo_areAlike_19 rfl rfl ?_
    refine zz_ialdV (j := a) C hR (V 3 a) d_Mo_areAlike_20 (fun _ _ => rfl) rfl (by omega) (by decide) (hP.2.2.1 a (by omega)).2.1 ?_
    refine zz_aload_n C d_Mo_areAlike_21 rfl rfl ?_
    refine zz_get C d_Mo_areAlike_22 zf_Mo_17 ((hR _).trans rfl) rfl ?_
    refine zz_iload_n C d_Mo_areAlike_25 rfl rfl ?_
    refine zz_ialdV (j := b) C hR (V 3 b) d_Mo_areAlike_26 (fun _ _ => rfl) rfl (by omega) (by decide) (hP.2.2.1 b (by omega)).2.1 ?_
    refine zz_icmp_ne (tgt := 45) C d_Mo_areAlike_27 (by decide) (fun c_27 => ?_) (fun c_27 => ?_)
    · refine zz_iconst (v := 0) C d_Mo_areAlike_45 (by decide) ?_
      refine zz_zret C Z d_Mo_areAlike_46 (by first | rfl | decide | assumption) ?_
      exact ⟨by simp only [csF, c_12, c_27, if_true, if_false, not_true_eq_false, not_false_eq_true], rfl, rfl⟩
    · refine zz_aload_n C d_Mo_areAlike_30 rfl rfl ?_
      refine zz_get C d_Mo_areAlike_31 zf_Mo_27 ((hR _).trans rfl) rfl ?_
      refine zz_iload_n C d_Mo_areAlike_34 rfl rfl ?_
      refine zz_ialdV (j := a) C hR (V 4 a) d_Mo_areAlike_35 (fun _ _ => rfl) rfl (by omega) (by decide) (hP.2.2.1 a (by omega)).2.2 ?_
      refine zz_aload_n C d_Mo_areAlike_36 rfl rfl ?_
      refine zz_get C d_Mo_areAlike_37 zf_Mo_27 ((hR _).trans rfl) rfl ?_
      refine zz_iload_n C d_Mo_areAlike_40 rfl rfl ?_
      refine zz_ialdV (j := b) C hR (V 4 b) d_Mo_areAlike_41 (fun _ _ => rfl) rfl (by omega) (by decide) (hP.2.2.1 b (by omega)).2.2 ?_
      refine zz_icmp_eq (tgt := 47) C d_Mo_areAlike_42 (by decide) (fun c_42 => ?_) (fun c_42 => ?_)
      · refine zz_iconst (v := 0) C d_Mo_areAlike_47 (by decide) ?_
        refine zz_istore_n C d_Mo_areAlike_48 rfl (by decide) rfl ?_
        exact lp_Mo_areAlike C Z hI hP ha hb hR ⟨rfl, rfl, rfl⟩ rc 0 _ _ _ rfl (Nat.zero_le _) (by simp only [csF, c_12, c_27, c_42, if_true, if_false, not_true_eq_false, not_false_eq_true])
      · refine zz_iconst (v := 0) C d_Mo_areAlike_45 (by decide) ?_
        refine zz_zret C Z d_Mo_areAlike_46 (by first | rfl | decide | assumption) ?_
        exact ⟨by simp only [csF, c_12, c_27, c_42, if_true, if_false, not_true_eq_false, not_false_eq_true], rfl, rfl⟩
set_option maxRecDepth 100000 in
set_option maxHeartbeats 4000000 in
theorem m_Mo_alike {x y : Int32} (hC : CI n rc sz al c V) (hM : MM n rc sz V pv μ pa) : sMet l y_Mo_alike b_Mo_alike 3 (some .int) (zR 2) E [.ref (ad 40), .int x, .int y] ad al μ pa (some (.int (alF n rc V x y))) μ pa := by
  intro h hR
  refine zMet.of (L := [some (.ref (ad 40)), some (.int x), some (.int y)]) (by decide +kernel) (Nat.le_of_ble_eq_true rfl) rfl 0 rfl fun X hl C Z => ?_
  have h8 := hC.n8
  have hN' := hC.N
  have hP : mP n rc V (th μ) := hM.1.sc th_sc
  refine zz_aload_n C d_Mo_alike_0 rfl rfl ?_
  refine zz_iconst (v := 0) C d_Mo_alike_1 (by decide) ?_
  refine zz_putI C hR d_Mo_alike_2 zp_Mo_1 rfl rfl rfl (Nat.le_of_ble_eq_true rfl) rfl (fun h hR => ?_)
  have hR : zRep E ad al (th μ) pa h := hR
  refine zz_aload_n C d_Mo_alike_5 rfl rfl ?_
  refine zz_iload_n C d_Mo_alike_6 rfl rfl ?_
  refine zz_callVr (e := 1) C hR d_Mo_alike_7 mk_Mo_118 zy_Mo_noName (m_Mo_noName (μ := th μ) h8 hM.N) ⟨by decide, by decide⟩ ⟨Nat.zero_le _, Nat.zero_le _⟩ rfl rfl rfl rfl (Nat.le_of_ble_eq_true rfl) ?_
  refine zz_if_ne (tgt := 21) C d_Mo_alike_10 (by decide) (fun c_10 => ?_) (fun c_10 => ?_)
  · have c_10 : hasN x (nI n) = 0 := Decidable.byContradiction (fun q => c_10 (by rw [if_pos q]))
    refine zz_iconst (v := -1) C d_Mo_alike_21 (by decide) ?_
    refine zz_goto (tgt := 39) C d_Mo_alike_22 (by decide) ?_
    refine zz_iret C Z d_Mo_alike_39 ?_
    exact ⟨by simp only [alF, hN', c_10, if_true, if_false, not_true_eq_false, not_false_eq_true], rfl, _, th_sc, hR⟩
  · have c_10 : ¬ hasN x (nI n) = 0 := fun q => absurd (by rw [if_neg (fun z => z q)] at c_10; exact c_10) (by decide)
    refine zz_aload_n C d_Mo_alike_13 rfl rfl ?_
    refine zz_iload_n C d_Mo_alike_14 rfl rfl ?_
    refine zz_callVr (e := 1) C hR d_Mo_alike_15 mk_Mo_118 zy_Mo_noName (m_Mo_noName (μ := th μ) h8 hM.N) ⟨by decide, by decide⟩ ⟨Nat.zero_le _, Nat.zero_le _⟩ rfl rfl rfl rfl (Nat.le_of_ble_eq_true rfl) ?_
    refine zz_if_eq (tgt := 25) C d_Mo_alike_18 (by decide) (fun c_18 => ?_) (fun c_18 => ?_)
    · have c_18 : ¬ hasN y (nI n) = 0 := fun q => absurd (by rw [if_neg (fun z => z q)] at c_18; exact c_18) (by decide)
      obtain ⟨a, ha, hx⟩ := hasN_ok c_10 (show n < 2 ^ 31 by omega)
      obtain ⟨b, hb, hy⟩ := hasN_ok c_18 (show n < 2 ^ 31 by omega)
      subst hx
      subst hy
      have ea : (nI a).toNatClampNeg = a := nI_clamp (by omega)
      have eb : (nI b).toNatClampNeg = b := nI_clamp (by omega)
      refine zz_aload_n C d_Mo_alike_25 rfl rfl ?_
      refine zz_iload_n C d_Mo_alike_26 rfl rfl ?_
      refine zz_iload_n C d_Mo_alike_27 rfl rfl ?_
      refine zz_callVr (e := 1) C hR d_Mo_alike_28 mk_Mo_130 zy_Mo_areAlike (m_Mo_areAlike hC.1 hP ha hb) ⟨by decide, by decide⟩ ⟨Nat.zero_le _, Nat.zero_le _⟩ rfl rfl rfl rfl (Nat.le_of_ble_eq_true rfl) ?_
      refine zz_if_eq (tgt := 38) C d_Mo_alike_31 (by decide) (fun c_31 => ?_) (fun c_31 => ?_)
      · refine zz_iconst (v := 0) C d_Mo_alike_38 (by decide) ?_
        refine zz_iret C Z d_Mo_alike_39 ?_
        exact ⟨by simp only [alF, hN', c_10, c_18, ea, eb, c_31, if_true, if_false, not_true_eq_false, not_false_eq_true], rfl, _, th_sc, hR⟩
      · refine zz_iconst (v := 1) C d_Mo_alike_34 (by decide) ?_
        refine zz_goto (tgt := 39) C d_Mo_alike_35 (by decide) ?_
        refine zz_iret C Z d_Mo_alike_39 ?_
        exact ⟨by simp only [alF, hN', c_10, c_18, ea, eb, c_31, if_true, if_false, not_true_eq_false, not_false_eq_true], rfl, _, th_sc, hR⟩
    · have c_18 : hasN y (nI n) = 0 := Decidable.byContradiction (fun q => c_18 (by rw [if_pos q]))
      refine zz_iconst (v := -1) C d_Mo_alike_21 (by decide) ?_
      refine zz_goto (tgt := 39) C d_Mo_alike_22 (by decide) ?_
      refine zz_iret C Z d_Mo_alike_39 ?_
      exact ⟨by simp only [alF, hN', c_10, c_18, if_true, if_false, not_true_eq_false, not_false_eq_true], rfl, _, th_sc, hR⟩
theorem s_alike {x y : Int32} (hC : CI n rc sz al c V) (hM : MM n rc sz V pv μ pa) : OK al c V V pv pv (xMet l y_Mo_alike b_Mo_alike 3 (zR 2) E [.ref (ad 40), .int x, .int y] ad al μ pa (alF n rc V x y)) := OK.sames hC hM (m_Mo_alike hC hM)
end MALIKE
