/-! MODEL.narrow -/
/-- the model's problem is V's (class rows) -/
def mP (n rc : Nat) (V μ : Nat → Nat → Int32) : Prop := μ 40 1 = nI n ∧ μ 40 8 = nI rc ∧ (∀ k, k < 8 → μ 41 k = V 2 k ∧ μ 42 k = V 3 k ∧ μ 45 k = V 4 k) ∧ ∀ r, r < 16 → μ 48 r = V 5 r ∧ μ 49 r = V 6 r ∧ μ 50 r = V 7 r ∧ ∀ k, k < 8 → μ 47 (8 * r + k) = V (24 + r) k
def mBst (V μ : Nat → Nat → Int32) : Prop := μ 40 14 = V 9 1 ∧ μ 40 15 = V 9 2
def sR (rc : Nat) (V : Nat → Nat → Int32) : Prop := ∀ r, r < rc → V 5 r = 0 ∨ V 5 r = 1 ∨ V 5 r = 2
theorem moB.sc {μ m : Nat → Nat → Int32} {s : zB} (h : moB μ m s) : sc μ m := ⟨h.2.2.2, fun i _ h30 => h.f40 h30⟩
theorem mP.sc {n rc : Nat} {V μ m : Nat → Nat → Int32} (h : mP n rc V μ) (g : sc μ m) : mP n rc V m := by
  obtain ⟨h1, h2, h3, h4⟩ := h
  refine ⟨by rw [g.2 1 (by decide) (by decide)]; exact h1, by rw [g.2 8 (by decide) (by decide)]; exact h2, ?_, ?_⟩
  · rw [g.1 41 (by decide) (by decide) (by decide), g.1 42 (by decide) (by decide) (by decide), g.1 45 (by decide) (by decide) (by decide)]; exact h3
  · rw [g.1 48 (by decide) (by decide) (by decide), g.1 49 (by decide) (by decide) (by decide), g.1 50 (by decide) (by decide) (by decide), g.1 47 (by decide) (by decide) (by decide)]; exact h4
theorem mBst.sc {V μ m : Nat → Nat → Int32} (h : mBst V μ) (g : sc μ m) : mBst V m := ⟨by rw [g.2 14 (by decide) (by decide)]; exact h.1, by rw [g.2 15 (by decide) (by decide)]; exact h.2⟩
theorem moB.step {μ m : Nat → Nat → Int32} {s s' : zB} (h : moB μ m s) : moB μ (setM m s') s' := by
  obtain ⟨g1, g2, g3, g4⟩ := moB.of (μ := m) (s := s')
  exact ⟨g1, g2, by rw [g3, h.2.2.1, upd_uu], fun k a b c => by rw [g4 k a b c, h.2.2.2 k a b c]⟩
theorem moB.trip {μ m : Nat → Nat → Int32} {s : zB} (h : moB μ m s) : ((m 62, m 63, m 40 30) : zB) = s := by
  obtain ⟨h1, h2, h3, -⟩ := h
  rw [h1, h2, h3, pk_us]
theorem moB.ch {μ m : Nat → Nat → Int32} {s : zB} {c : Int32} (h : moB μ m s) : moB μ (va_up m 40 (upd (m 40) 30 c)) (s.1, s.2.1, c) := by
  obtain ⟨h1, h2, h3, h4⟩ := h
  exact ⟨h1, h2, by show upd (m 40) 30 c = _; rw [h3, upd_uu], fun k a b d => by rw [va_up_ne _ _ a]; exact h4 k a b d⟩
theorem foF_0 {n rc r k : Nat} {V μ : Nat → Nat → Int32} (h : mP n rc V μ) (hr : r < 16) (hk : k < 8) : foF μ r k 0 = 1 * V (24 + r) k := by
  unfold foF; rw [if_pos rfl, if_neg (by omega), one_mul32]; exact (h.2.2.2 r hr).2.2.2 k hk
theorem foF_1 {n rc r k : Nat} {V μ : Nat → Nat → Int32} (h : mP n rc V μ) (hr : r < 16) (hk : k < 8) : foF μ r k 1 = (-1) * V (24 + r) k := by
  unfold foF; rw [if_neg (by decide), if_neg (by omega), m1_mul32, (h.2.2.2 r hr).2.2.2 k hk]
theorem foF_c {n rc k : Nat} {V μ : Nat → Nat → Int32} (h : mP n rc V μ) (hk : k < 8) : foF μ 16 k 0 = 1 * V 4 k := by
  unfold foF; rw [if_pos rfl, if_pos rfl, one_mul32]; exact (h.2.2.1 k hk).2.2
theorem cl01 (f : Nat → Int32) (sg right : Int32) (n : Nat) (s : zB) : (closesF f sg right n s).1 = 0 ∨ (closesF f sg right n s).1 = 1 := by
  unfold closesF; split
  · exact Or.inl rfl
  · exact Or.inr rfl
section MNARROW
variable {l : Launch} {E : zE} {ad : Nat → Nat} {al : Nat} {μ : Nat → Nat → Int32} {pa : Nat → Nat → Int64}
set_option maxRecDepth 100000 in
set_option maxHeartbeats 4000000 in
theorem stA_Mo_narrow {X : zX} {post : Option Value → (Nat → Nat) → zH → Prop} (C : zc X E b_Mo_narrow 2 "BranchTreesModel" (zR 2)) (Z : zr X E (some .int) 0 0 post) {V : Nat → Nat → Int32} {n rc : Nat} (hV : vR n rc V) (hP : mP n rc V μ) (hS : sR rc V) {r : Nat} (hr : r < rc) {next : zB → Int32 × zB} {T : Int32 × zB}
    (hpost : ∀ (m : Nat → Nat → Int32) (h : zH), T.1 = nI r → moB μ m T.2 → zRep E ad al m pa h → post (some (.int (nI r))) ad h)
    (kn : ∀ (s : zB) (m : Nat → Nat → Int32), next s = T → bdR n s.1 s.2.1 → moB μ m s → ∀ h, zRep E ad al m pa h → zz X E 2 ad 0 0 54 [some (.ref (ad 40)), some (.int (nI r))] [] h) :
    ∀ (s : zB) (m : Nat → Nat → Int32), stF (V 5 r) (V (24 + r)) (V 6 r) 1 n r next s = T → bdR n s.1 s.2.1 → moB μ m s → ∀ h, zRep E ad al m pa h → zz X E 2 ad 0 0 27 [some (.ref (ad 40)), some (.int (nI r))] [] h := by
  intro s m hT hbs hm h hR
  obtain ⟨hn, hrc, hrw, hcf, hbst⟩ := id hV
  obtain ⟨f1, r1, r2⟩ := hrw r hr
  have hPm := hP.sc hm.sc
  have hr16 : r < 16 := by omega
  obtain ⟨e48, e49, e50, e47⟩ := hPm.2.2.2 r hr16
  have hs : ((m 62, m 63, m 40 30) : zB) = s := hm.trip
  have hbm : bdR n (m 62) (m 63) := by rw [hm.1, hm.2.1]; exact hbs
  by_cases c0 : V 5 r = 1
  · have e : stF (V 5 r) (V (24 + r)) (V 6 r) 1 n r next s = next s := by unfold stF rsF bindsF; rw [c0]; rfl
    rw [e] at hT
    refine zz_aload_n C d_Mo_narrow_27 rfl rfl ?_
    refine zz_get C d_Mo_narrow_28 zf_Mo_36 ((hR _).trans rfl) rfl ?_
    refine zz_iload_n C d_Mo_narrow_31 rfl rfl ?_
    refine zz_ialdV (j := r) C hR (V 5 r) d_Mo_narrow_32 (fun _ _ => rfl) rfl hr16 (by decide) e48 ?_
    refine zz_iconst (v := 1) C d_Mo_narrow_33 (by decide) ?_
    refine zz_icmp_eq (tgt := 54) C d_Mo_narrow_34 (by decide) (fun c_34 => ?_) (fun c_34 => ?_)
    · exact kn s m hT hbs hm h hR
    · exact absurd c0 c_34
  have hbind : ¬ bindsF (V 5 r) 1 = 0 := by
    rcases hS r hr with q | q | q
    · rw [q]; decide
    · exact absurd q c0
    · rw [q]; decide
  have hsl := sl_ok (right := V 6 r) hn (fc_1 f1) hbm (by omega) (by omega)
  have hrs : rsF (V 5 r) (V (24 + r)) (V 6 r) 1 n s = closesF (V (24 + r)) 1 (V 6 r) n s := by unfold rsF; rw [if_neg hbind, one_mul32]
  unfold stF at hT
  rw [hrs] at hT
  refine zz_aload_n C d_Mo_narrow_27 rfl rfl ?_
  refine zz_get C d_Mo_narrow_28 zf_Mo_36 ((hR _).trans rfl) rfl ?_
  refine zz_iload_n C d_Mo_narrow_31 rfl rfl ?_
  refine zz_ialdV (j := r) C hR (V 5 r) d_Mo_narrow_32 (fun _ _ => rfl) rfl hr16 (by decide) e48 ?_
  refine zz_iconst (v := 1) C d_Mo_narrow_33 (by decide) ?_
  refine zz_icmp_eq (tgt := 54) C d_Mo_narrow_34 (by decide) (fun c_34 => ?_) (fun c_34 => ?_)
  · exact absurd c_34 c0
  · refine zz_aload_n C d_Mo_narrow_37 rfl rfl ?_
    refine zz_iload_n C d_Mo_narrow_38 rfl rfl ?_
    refine zz_iconst (v := 0) C d_Mo_narrow_39 (by decide) ?_
    refine zz_aload_n C d_Mo_narrow_40 rfl rfl ?_
    refine zz_get C d_Mo_narrow_41 zf_Mo_39 ((hR _).trans rfl) rfl ?_
    refine zz_iload_n C d_Mo_narrow_44 rfl rfl ?_
    refine zz_ialdV (j := r) C hR (V 6 r) d_Mo_narrow_45 (fun _ _ => rfl) rfl hr16 (by decide) e49 ?_
    refine zz_callVw (e := 1) C hR d_Mo_narrow_46 mk_Mo_150 zy_Mo_keeps (m_Mo_keeps (f := V (24 + r)) (sg := 1) (by omega) hn hPm.1 (fun k hk => foF_0 hPm hr16 (by omega)) (fc_1 f1) hbm hsl.1 hsl.2) ⟨by decide, by decide⟩ ⟨Nat.zero_le _, Nat.zero_le _⟩ rfl rfl rfl rfl (Nat.le_of_ble_eq_true rfl) (fun h hR => ?_)
    rw [hs] at hR
    rw [hs]
    refine zz_if_ne (tgt := 54) C d_Mo_narrow_49 (by decide) (fun c_49 => ?_) (fun c_49 => ?_)
    · have q0 : (closesF (V (24 + r)) 1 (V 6 r) n s).1 = 0 := Decidable.byContradiction (fun q => c_49 (by rw [if_neg q]))
      rw [if_pos q0] at hT
      exact kn _ _ hT (closesF_sh hn (fc_1 f1) hbs (by omega) (by omega)).1 hm.step h hR
    · have q0 : ¬ (closesF (V (24 + r)) 1 (V 6 r) n s).1 = 0 := fun q => absurd (by rw [if_pos q] at c_49; exact c_49) (by decide)
      rw [if_neg q0] at hT
      refine zz_iload_n C d_Mo_narrow_52 rfl rfl ?_
      refine zz_iret C Z d_Mo_narrow_53 ?_
      exact hpost _ h (by rw [← hT]) (by rw [← hT]; exact hm.step) hR
set_option maxRecDepth 100000 in
set_option maxHeartbeats 4000000 in
theorem stB_Mo_narrow {X : zX} {post : Option Value → (Nat → Nat) → zH → Prop} (C : zc X E b_Mo_narrow 2 "BranchTreesModel" (zR 2)) (Z : zr X E (some .int) 0 0 post) {V : Nat → Nat → Int32} {n rc : Nat} (hV : vR n rc V) (hP : mP n rc V μ) (hS : sR rc V) {r : Nat} (hr : r < rc) {next : zB → Int32 × zB} {T : Int32 × zB}
    (hpost : ∀ (m : Nat → Nat → Int32) (h : zH), T.1 = nI r → moB μ m T.2 → zRep E ad al m pa h → post (some (.int (nI r))) ad h)
    (kn : ∀ (s : zB) (m : Nat → Nat → Int32), next s = T → bdR n s.1 s.2.1 → moB μ m s → ∀ h, zRep E ad al m pa h → zz X E 2 ad 0 0 81 [some (.ref (ad 40)), some (.int (nI r))] [] h) :
    ∀ (s : zB) (m : Nat → Nat → Int32), stF (V 5 r) (V (24 + r)) (V 6 r) (-1) n r next s = T → bdR n s.1 s.2.1 → moB μ m s → ∀ h, zRep E ad al m pa h → zz X E 2 ad 0 0 54 [some (.ref (ad 40)), some (.int (nI r))] [] h := by
  intro s m hT hbs hm h hR
  obtain ⟨hn, hrc, hrw, hcf, hbst⟩ := id hV
  obtain ⟨f1, r1, r2⟩ := hrw r hr
  have hPm := hP.sc hm.sc
  have hr16 : r < 16 := by omega
  obtain ⟨e48, e49, e50, e47⟩ := hPm.2.2.2 r hr16
  have hs : ((m 62, m 63, m 40 30) : zB) = s := hm.trip
  have hbm : bdR n (m 62) (m 63) := by rw [hm.1, hm.2.1]; exact hbs
  by_cases c0 : V 5 r = 0
  · have e : stF (V 5 r) (V (24 + r)) (V 6 r) (-1) n r next s = next s := by unfold stF rsF bindsF; rw [c0]; rfl
    rw [e] at hT
    refine zz_aload_n C d_Mo_narrow_54 rfl rfl ?_
    refine zz_get C d_Mo_narrow_55 zf_Mo_36 ((hR _).trans rfl) rfl ?_
    refine zz_iload_n C d_Mo_narrow_58 rfl rfl ?_
    refine zz_ialdV (j := r) C hR (V 5 r) d_Mo_narrow_59 (fun _ _ => rfl) rfl hr16 (by decide) e48 ?_
    refine zz_if_eq (tgt := 81) C d_Mo_narrow_60 (by decide) (fun c_60 => ?_) (fun c_60 => ?_)
    · exact kn s m hT hbs hm h hR
    · exact absurd c0 c_60
  have hbind : ¬ bindsF (V 5 r) (-1) = 0 := by
    rcases hS r hr with q | q | q
    · exact absurd q c0
    · rw [q]; decide
    · rw [q]; decide
  have hneg : (-V 6 r).toInt = -(V 6 r).toInt := tI_neg (by omega)
  have hsl := sl_ok (right := -V 6 r) hn (fc_m1 f1) hbm (by omega) (by omega)
  have hrs : rsF (V 5 r) (V (24 + r)) (V 6 r) (-1) n s = closesF (V (24 + r)) (-1) (-V 6 r) n s := by unfold rsF; rw [if_neg hbind, m1_mul32]
  unfold stF at hT
  rw [hrs] at hT
  refine zz_aload_n C d_Mo_narrow_54 rfl rfl ?_
  refine zz_get C d_Mo_narrow_55 zf_Mo_36 ((hR _).trans rfl) rfl ?_
  refine zz_iload_n C d_Mo_narrow_58 rfl rfl ?_
  refine zz_ialdV (j := r) C hR (V 5 r) d_Mo_narrow_59 (fun _ _ => rfl) rfl hr16 (by decide) e48 ?_
  refine zz_if_eq (tgt := 81) C d_Mo_narrow_60 (by decide) (fun c_60 => ?_) (fun c_60 => ?_)
  · exact absurd c_60 c0
  · refine zz_aload_n C d_Mo_narrow_63 rfl rfl ?_
    refine zz_iload_n C d_Mo_narrow_64 rfl rfl ?_
    refine zz_iconst (v := 1) C d_Mo_narrow_65 (by decide) ?_
    refine zz_aload_n C d_Mo_narrow_66 rfl rfl ?_
    refine zz_get C d_Mo_narrow_67 zf_Mo_39 ((hR _).trans rfl) rfl ?_
    refine zz_iload_n C d_Mo_narrow_70 rfl rfl ?_
    refine zz_ialdV (j := r) C hR (V 6 r) d_Mo_narrow_71 (fun _ _ => rfl) rfl hr16 (by decide) e49 ?_
    refine zz_ineg C d_Mo_narrow_72 ?_
    refine zz_callVw (e := 1) C hR d_Mo_narrow_73 mk_Mo_150 zy_Mo_keeps (m_Mo_keeps (f := V (24 + r)) (sg := -1) (by omega) hn hPm.1 (fun k hk => foF_1 hPm hr16 (by omega)) (fc_m1 f1) hbm hsl.1 hsl.2) ⟨by decide, by decide⟩ ⟨Nat.zero_le _, Nat.zero_le _⟩ rfl rfl rfl rfl (Nat.le_of_ble_eq_true rfl) (fun h hR => ?_)
    rw [hs] at hR
    rw [hs]
    refine zz_if_ne (tgt := 81) C d_Mo_narrow_76 (by decide) (fun c_76 => ?_) (fun c_76 => ?_)
    · have q0 : (closesF (V (24 + r)) (-1) (-V 6 r) n s).1 = 0 := Decidable.byContradiction (fun q => c_76 (by rw [if_neg q]))
      rw [if_pos q0] at hT
      exact kn _ _ hT (closesF_sh hn (fc_m1 f1) hbs (by omega) (by omega)).1 hm.step h hR
    · have q0 : ¬ (closesF (V (24 + r)) (-1) (-V 6 r) n s).1 = 0 := fun q => absurd (by rw [if_pos q] at c_76; exact c_76) (by decide)
      rw [if_neg q0] at hT
      refine zz_iload_n C d_Mo_narrow_79 rfl rfl ?_
      refine zz_iret C Z d_Mo_narrow_80 ?_
      exact hpost _ h (by rw [← hT]) (by rw [← hT]; exact hm.step) hR
set_option maxRecDepth 100000 in
set_option maxHeartbeats 4000000 in
theorem lpR_Mo_narrow {X : zX} {post : Option Value → (Nat → Nat) → zH → Prop} (C : zc X E b_Mo_narrow 2 "BranchTreesModel" (zR 2)) (Z : zr X E (some .int) 0 0 post) {V : Nat → Nat → Int32} {n rc : Nat} (hV : vR n rc V) (hP : mP n rc V μ) (hS : sR rc V) (hB : mBst V μ) {T : Int32 × zB}
    (hpost : ∀ (m : Nat → Nat → Int32) (h : zH), ¬ T.1 = -2 → moB μ m T.2 → zRep E ad al m pa h → post (some (.int T.1)) ad h)
    (k5 : ∀ (w : Option Value) (m : Nat → Nat → Int32) (h : zH), T.1 = -2 → moB μ m T.2 → zRep E ad al m pa h → zz X E 2 ad 0 0 5 [some (.ref (ad 40)), w] [] h) :
    ∀ (d r : Nat) (s : zB) (m : Nat → Nat → Int32), rc - r = d → r ≤ rc → goF V n d r s = T → bdR n s.1 s.2.1 → moB μ m s → ∀ h, zRep E ad al m pa h → zz X E 2 ad 0 0 19 [some (.ref (ad 40)), some (.int (nI r))] [] h := by
  intro d
  induction d with
  | zero =>
    intro r s m hd hrr hT hbs hm h hR
    have e : r = rc := by omega
    subst e
    obtain ⟨hn, hrc, hrw, hcf, hbst⟩ := id hV
    have hPm := hP.sc hm.sc
    have hBm := hB.sc hm.sc
    have hs : ((m 62, m 63, m 40 30) : zB) = s := hm.trip
    have hbm : bdR n (m 62) (m 63) := by rw [hm.1, hm.2.1]; exact hbs
    have hT : ceF (V 9 1) (V 9 2) (V 4) n s = T := hT
    by_cases c0 : V 9 1 = 0
    · unfold ceF at hT
      rw [if_pos c0] at hT
      refine zz_iload_n C d_Mo_narrow_19 rfl rfl ?_
      refine zz_aload_n C d_Mo_narrow_20 rfl rfl ?_
      refine zz_get C d_Mo_narrow_21 zf_Mo_115 ((hR _).trans rfl) rfl ?_
      refine zz_icmp_ge (tgt := 87) C d_Mo_narrow_24 (by decide) (fun c_24 => ?_) (fun c_24 => ?_)
      · refine zz_aload_n C d_Mo_narrow_87 rfl rfl ?_
        refine zz_getV C hR (V 9 1) _ d_Mo_narrow_88 zf_Mo_98 rfl rfl hBm.1 ?_
        refine zz_if_eq (tgt := 5) C d_Mo_narrow_91 (by decide) (fun c_91 => ?_) (fun c_91 => ?_)
        · exact k5 _ m h (by rw [← hT]) (by rw [← hT]; exact hm) hR
        · exact absurd c0 c_91
      · exact absurd (by rw [hPm.2.1]; exact nI_le (Nat.le_refl _) (by omega)) c_24
    · unfold ceF at hT
      rw [if_neg c0] at hT
      obtain ⟨p1, p2⟩ := hbst c0
      have eb : (V 9 2 - 1).toInt = (V 9 2).toInt - 1 := by
        rw [tI_sub (by rw [show (1 : Int32).toInt = 1 by decide]; omega) (by rw [show (1 : Int32).toInt = 1 by decide]; omega)]; rfl
      have hsl := sl_ok (right := V 9 2 - 1) hn (fc_1 hcf) hbm (by omega) (by omega)
      refine zz_iload_n C d_Mo_narrow_19 rfl rfl ?_
      refine zz_aload_n C d_Mo_narrow_20 rfl rfl ?_
      refine zz_get C d_Mo_narrow_21 zf_Mo_115 ((hR _).trans rfl) rfl ?_
      refine zz_icmp_ge (tgt := 87) C d_Mo_narrow_24 (by decide) (fun c_24 => ?_) (fun c_24 => ?_)
      · refine zz_aload_n C d_Mo_narrow_87 rfl rfl ?_
        refine zz_getV C hR (V 9 1) _ d_Mo_narrow_88 zf_Mo_98 rfl rfl hBm.1 ?_
        refine zz_if_eq (tgt := 5) C d_Mo_narrow_91 (by decide) (fun c_91 => ?_) (fun c_91 => ?_)
        · exact absurd c_91 c0
        · refine zz_aload_n C d_Mo_narrow_94 rfl rfl ?_
          refine zz_bipush (v := 16) C d_Mo_narrow_95 (by decide) ?_
          refine zz_iconst (v := 0) C d_Mo_narrow_97 (by decide) ?_
          refine zz_aload_n C d_Mo_narrow_98 rfl rfl ?_
          refine zz_getV C hR (V 9 2) _ d_Mo_narrow_99 zf_Mo_136 rfl rfl hBm.2 ?_
          refine zz_iconst (v := 1) C d_Mo_narrow_102 (by decide) ?_
          refine zz_isub C d_Mo_narrow_103 ?_
          refine zz_callVw (e := 1) C hR d_Mo_narrow_104 mk_Mo_150 zy_Mo_keeps (m_Mo_keeps (r := 16) (f := V 4) (sg := 1) (by omega) hn hPm.1 (fun k hk => foF_c hPm (by omega)) (fc_1 hcf) hbm hsl.1 hsl.2) ⟨by decide, by decide⟩ ⟨Nat.zero_le _, Nat.zero_le _⟩ rfl rfl rfl rfl (Nat.le_of_ble_eq_true rfl) (fun h hR => ?_)
          rw [hs] at hR
          rw [hs]
          refine zz_if_ne (tgt := 5) C d_Mo_narrow_107 (by decide) (fun c_107 => ?_) (fun c_107 => ?_)
          · have q0 : (closesF (V 4) 1 (V 9 2 - 1) n s).1 = 0 := Decidable.byContradiction (fun q => c_107 (by rw [if_neg q]))
            rw [if_pos q0] at hT
            exact k5 _ _ h (by rw [← hT]) (by rw [← hT]; exact hm.step) hR
          · have q0 : ¬ (closesF (V 4) 1 (V 9 2 - 1) n s).1 = 0 := fun q => absurd (by rw [if_pos q] at c_107; exact c_107) (by decide)
            rw [if_neg q0] at hT
            refine zz_bipush (v := 16) C d_Mo_narrow_110 (by decide) ?_
            refine zz_iret C Z d_Mo_narrow_112 ?_
            have q := hpost _ h (by rw [← hT]; show ¬ (16 : Int32) = -2; decide) (by rw [← hT]; exact hm.step) hR
            rw [← hT] at q
            exact q
      · exact absurd (by rw [hPm.2.1]; exact nI_le (Nat.le_refl _) (by omega)) c_24
  | succ d ih =>
    intro r s m hd hrr hT hbs hm h hR
    have hlt : r < rc := by omega
    have hr16 : r < 16 := by have := hV.2.1; omega
    have hPm := hP.sc hm.sc
    have K81 : ∀ (s : zB) (m : Nat → Nat → Int32), goF V n d (r + 1) s = T → bdR n s.1 s.2.1 → moB μ m s → ∀ h, zRep E ad al m pa h → zz X E 2 ad 0 0 81 [some (.ref (ad 40)), some (.int (nI r))] [] h := by
      intro s m hT hbs hm h hR
      refine zz_iinc C d_Mo_narrow_81 rfl (nI_inc _) (by decide) rfl ?_
      refine zz_goto (tgt := 19) C d_Mo_narrow_84 (by decide) ?_
      exact ih (r + 1) s m (by omega) hlt hT hbs hm h hR
    have hret : ∀ (m : Nat → Nat → Int32) (h : zH), T.1 = nI r → moB μ m T.2 → zRep E ad al m pa h → post (some (.int (nI r))) ad h := fun m h e hm hR => by
      have q := hpost m h (by rw [e]; exact ne_m2 (by omega)) hm hR
      rw [e] at q; exact q
    have K54 := stB_Mo_narrow C Z hV hP hS hlt hret K81
    have K27 := stA_Mo_narrow C Z hV hP hS hlt hret K54
    refine zz_iload_n C d_Mo_narrow_19 rfl rfl ?_
    refine zz_aload_n C d_Mo_narrow_20 rfl rfl ?_
    refine zz_get C d_Mo_narrow_21 zf_Mo_115 ((hR _).trans rfl) rfl ?_
    refine zz_icmp_ge (tgt := 87) C d_Mo_narrow_24 (by decide) (fun c_24 => ?_) (fun c_24 => ?_)
    · exact absurd (by rw [hPm.2.1] at c_24; exact c_24) (nI_ge hlt (by have := hV.2.1; omega))
    · exact K27 s m hT hbs hm h hR
set_option maxRecDepth 100000 in
set_option maxHeartbeats 4000000 in
theorem lp_Mo_narrow {X : zX} {post : Option Value → (Nat → Nat) → zH → Prop} (C : zc X E b_Mo_narrow 2 "BranchTreesModel" (zR 2)) (Z : zr X E (some .int) 0 0 post) {V : Nat → Nat → Int32} {n rc : Nat} (hV : vR n rc V) (hP : mP n rc V μ) (hS : sR rc V) (hB : mBst V μ) {T : Int32 × zB}
    (hpost : ∀ (m : Nat → Nat → Int32) (h : zH), moB μ m T.2 → zRep E ad al m pa h → post (some (.int T.1)) ad h) :
    ∀ (K : Nat) (s : zB) (m : Nat → Nat → Int32) (w : Option Value), (s.2.2 = 0 → (-2, s) = T) → (¬ s.2.2 = 0 → nwF V n rc K s = T ∧ spS s n < K) → bdR n s.1 s.2.1 → moB μ m s → ∀ h, zRep E ad al m pa h → zz X E 2 ad 0 0 5 [some (.ref (ad 40)), w] [] h := by
  intro K
  induction K with
  | zero =>
    intro s m w h0 h1 hbs hm h hR
    by_cases c0 : s.2.2 = 0
    · have hT := h0 c0
      have hm30 : m 40 30 = s.2.2 := by rw [hm.2.2.1, pk_us]
      refine zz_aload_n C d_Mo_narrow_5 rfl rfl ?_
      refine zz_getV C hR (s.2.2) _ d_Mo_narrow_6 zf_Mo_147 rfl rfl hm30 ?_
      refine zz_if_eq (tgt := 113) C d_Mo_narrow_9 (by decide) (fun c_9 => ?_) (fun c_9 => ?_)
      · refine zz_bipush (v := -2) C d_Mo_narrow_113 (by decide) ?_
        refine zz_iret C Z d_Mo_narrow_115 ?_
        have q := hpost m h (by rw [← hT]; exact hm) hR
        rw [← hT] at q
        exact q
      · exact absurd c0 c_9
    · exact absurd (h1 c0).2 (by omega)
  | succ K ih =>
    intro s m w h0 h1 hbs hm h hR
    have hm30 : m 40 30 = s.2.2 := by rw [hm.2.2.1, pk_us]
    by_cases c0 : s.2.2 = 0
    · have hT := h0 c0
      refine zz_aload_n C d_Mo_narrow_5 rfl rfl ?_
      refine zz_getV C hR (s.2.2) _ d_Mo_narrow_6 zf_Mo_147 rfl rfl hm30 ?_
      refine zz_if_eq (tgt := 113) C d_Mo_narrow_9 (by decide) (fun c_9 => ?_) (fun c_9 => ?_)
      · refine zz_bipush (v := -2) C d_Mo_narrow_113 (by decide) ?_
        refine zz_iret C Z d_Mo_narrow_115 ?_
        have q := hpost m h (by rw [← hT]; exact hm) hR
        rw [← hT] at q
        exact q
      · exact absurd c0 c_9
    · obtain ⟨hT, hsp⟩ := h1 c0
      simp only [nwF] at hT
      have hgs := goF_sh hV rc 0 (by omega) (s.1, s.2.1, 0) hbs
      have hm2 := hm.ch (c := 0)
      refine zz_aload_n C d_Mo_narrow_5 rfl rfl ?_
      refine zz_getV C hR (s.2.2) _ d_Mo_narrow_6 zf_Mo_147 rfl rfl hm30 ?_
      refine zz_if_eq (tgt := 113) C d_Mo_narrow_9 (by decide) (fun c_9 => ?_) (fun c_9 => ?_)
      · exact absurd c_9 c0
      · refine zz_aload_n C d_Mo_narrow_12 rfl rfl ?_
        refine zz_iconst (v := 0) C d_Mo_narrow_13 (by decide) ?_
        refine zz_putI C hR d_Mo_narrow_14 zp_Mo_147 rfl rfl rfl (Nat.le_of_ble_eq_true rfl) rfl (fun h hR => ?_)
        refine zz_iconst (v := 0) C d_Mo_narrow_17 (by decide) ?_
        refine zz_istore_n C d_Mo_narrow_18 rfl (by decide) rfl ?_
        refine lpR_Mo_narrow C Z hV hP hS hB (T := goF V n rc 0 (s.1, s.2.1, 0)) (fun m h e hm hR => ?_) (fun w m h e hm hR => ?_) rc 0 (s.1, s.2.1, 0) _ rfl (Nat.zero_le _) rfl hbs hm2 h hR
        · rw [if_pos e] at hT
          rw [hT] at hm ⊢
          exact hpost m h hm hR
        · rw [if_neg (fun q => q e)] at hT
          refine ih _ m w (fun q => ?_) (fun q => ?_) hgs.1 hm h hR
          · rw [if_neg (fun z => z q)] at hT; rw [← hT, ← e]
          · rw [if_pos q] at hT
            refine ⟨hT, ?_⟩
            have hl := goF_ch hV hbs q
            have e2 : spS (s.1, s.2.1, (0 : Int32)) n = spS s n := spS_ch (c' := s.2.2) n
            omega
set_option maxRecDepth 100000 in
set_option maxHeartbeats 4000000 in
theorem m_Mo_narrow {V : Nat → Nat → Int32} {n rc : Nat} (hV : vR n rc V) (hP : mP n rc V μ) (hS : sR rc V) (hB : mBst V μ) (hb : bdR n (μ 62) (μ 63)) : wMet l y_Mo_narrow b_Mo_narrow 2 (some .int) (zR 2) E [.ref (ad 40)] ad al μ pa (some (.int (nwF V n rc 1000 (μ 62, μ 63, 1)).1)) (setM μ (nwF V n rc 1000 (μ 62, μ 63, 1)).2) pa := by
  intro h hR
  refine zMet.of (L := [some (.ref (ad 40)), none]) (by decide +kernel) (Nat.le_of_ble_eq_true rfl) rfl 1 rfl fun X hl C Z => ?_
  refine zz_aload_n C d_Mo_narrow_0 rfl rfl ?_
  refine zz_iconst (v := 1) C d_Mo_narrow_1 (by decide) ?_
  refine zz_putI C hR d_Mo_narrow_2 zp_Mo_147 rfl rfl rfl (Nat.le_of_ble_eq_true rfl) rfl (fun h hR => ?_)
  have hsp : spS (μ 62, μ 63, (1 : Int32)) n ≤ 100 * n := spS_bd n hb
  exact lp_Mo_narrow C Z hV hP hS hB (T := nwF V n rc 1000 (μ 62, μ 63, 1)) (fun m h hm hR => ⟨rfl, rfl, hR.eq hm.eq rfl⟩) 1000 (μ 62, μ 63, 1) _ _ (fun q => absurd q (by show ¬ (1 : Int32) = 0; decide)) (fun _ => ⟨rfl, by have := hV.1; omega⟩) hb (moB.rf.ch (c := 1)) h hR
end MNARROW
