/-! THE CALLS, both sides: the simple ones -/
def OK (al c : Nat) (V V' : Nat → Nat → Int32) (pv pv' : Nat → Nat → Int64) (K : ((Nat → Nat → Int32) → (Nat → Nat → Int64) → Prop) → Prop) : Prop := (∀ k, 40 ≤ k → k < 64 → V' k = V k) ∧ pv' 43 = pv 43 ∧ ∃ n rc sz, CI n rc sz al c V' ∧ K (MM n rc sz V' pv')
theorem CI.num' {n rc sz al c : Nat} {V W : Nat → Nat → Int32} (h : CI n rc sz al c V) (e : ∀ k, 100 ≤ k → W k = V k) : ∀ j, j < al → W (100 + 4 * j) 0 = nI j := fun j hj => by rw [e _ (by omega)]; exact h.num j hj
theorem tv.fr {n j : Nat} {V W : Nat → Nat → Int32} (h : tv n V j) (e2 : W 2 = V 2) (e3 : W 3 = V 3) (e : ∀ k, 100 ≤ k → W k = V k) : tv n W j := by
  rcases h with ⟨h0, h1, h2, h3, h4⟩ | ⟨p, a, h1, h2, h3, h4, h5, h6, h7, h8⟩
  · refine Or.inl ⟨h0, ?_, ?_, ?_, ?_⟩
    · rw [e _ (by omega)]; exact h1
    · rw [e _ (by omega)]; exact h2
    · rw [e _ (by omega)]; exact h3
    · rw [e2, e3, e _ (by omega), e _ (by omega)]; exact h4
  · refine Or.inr ⟨p, a, h1, h2, ?_⟩
    rw [e (100 + 4 * j) (by omega), e (100 + 4 * p) (by omega), e (100 + 4 * j + 2) (by omega), e (100 + 4 * j + 3) (by omega), e (100 + 4 * p + 2) (by omega), e (100 + 4 * p + 3) (by omega)]
    exact ⟨h3, h4, h5, h6, h7, h8⟩
theorem tI.fr {n sz al : Nat} {V W : Nat → Nat → Int32} (h : tI n sz al V) (e : ∀ k, k = 2 ∨ k = 3 ∨ k = 4 ∨ k = 14 ∨ 100 ≤ k → W k = V k) : tI n sz al W := by
  obtain ⟨h1, h2, h3, h4, h5, h6⟩ := h
  refine ⟨by rw [e 14 (by omega)]; exact h1, h2, h3, fun j hj => by rw [e _ (by omega)]; exact h4 j hj, fun j hj => ?_, fun j hj => (h6 j hj).fr (e 2 (by omega)) (e 3 (by omega)) (fun k hk => e k (by omega))⟩
  rw [e 4 (by omega), e (100 + 4 * j) (by omega), e (100 + 4 * j + 2) (by omega), e (100 + 4 * j + 3) (by omega)]
  exact h5 j hj
theorem mT.fr {n sz : Nat} {V W μ : Nat → Nat → Int32} (h : mT n sz V μ) (e : ∀ k, 100 ≤ k → W k = V k) : mT n sz W μ := by
  refine ⟨h.1, fun j hj => ?_⟩
  rw [e (100 + 4 * j) (by omega), e (100 + 4 * j + 2) (by omega), e (100 + 4 * j + 3) (by omega)]
  exact h.2 j hj
theorem pI.nm {n rc : Nat} {V : Nat → Nat → Int32} {x y : Int32} (h : pI n rc V) (hn : n < 8) (hx : -50 ≤ x.toInt) (hxy : x.toInt ≤ y.toInt) (hy : y.toInt ≤ 50) : pI (n + 1) rc (anF V n x y) := by
  obtain ⟨h1, h2, h3, h4, h5, h6, h7⟩ := h
  have e : ∀ r, r < 16 → anF V n x y (24 + r) = V (24 + r) := fun r hr => by
    unfold anF; rw [va_up_ne _ _ (by omega), va_up_ne _ _ (by omega), va_up_ne _ _ (by omega)]
  refine ⟨⟨rfl, h1.2.1, by omega, h1.2.2.2⟩, ?_, h3, fun r hr => ?_, h5, h6, fun r k hr hk hk8 => ?_⟩
  · intro k hk
    show _ ≤ (upd (V 2) n x k).toInt ∧ (upd (V 2) n x k).toInt ≤ (upd (V 3) n y k).toInt ∧ (upd (V 3) n y k).toInt ≤ 50
    by_cases c : k = n
    · subst c; rw [pk_us, pk_us]; exact ⟨hx, hxy, hy⟩
    · rw [pk_un c, pk_un c]; exact h2 k hk
  · rw [e r hr]; exact h4 r hr
  · rw [e r hr]; exact h7 r k hr (by omega) hk8
theorem pI.rw {n rc : Nat} {V : Nat → Nat → Int32} {x y : Int32} (h : pI n rc V) (hn : rc < 16) (hx : x = 0 ∨ x = 1 ∨ x = 2) (hy : -1000 ≤ y.toInt ∧ y.toInt ≤ 1000) : pI n (rc + 1) (arF V rc x y) := by
  obtain ⟨h1, h2, h3, h4, h5, h6, h7⟩ := h
  have e : ∀ r, r < 16 → arF V rc x y (24 + r) = V (24 + r) := fun r hr => by
    unfold arF; rw [va_up_ne _ _ (by omega), va_up_ne _ _ (by omega), va_up_ne _ _ (by omega)]
  refine ⟨⟨h1.1, rfl, h1.2.2.1, by omega⟩, h2, h3, fun r hr => ?_, fun r hr => h5 r (by omega), ?_, fun r k hr hk hk8 => ?_⟩
  · rw [e r hr]
    refine ⟨(h4 r hr).1, ?_, ?_⟩
    · show _ ≤ (upd (V 6) rc y r).toInt ∧ (upd (V 6) rc y r).toInt ≤ 1000
      by_cases c : r = rc
      · subst c; rw [pk_us]; exact hy
      · rw [pk_un c]; exact (h4 r hr).2.1
    · show upd (V 5) rc x r = 0 ∨ upd (V 5) rc x r = 1 ∨ upd (V 5) rc x r = 2
      by_cases c : r = rc
      · subst c; rw [pk_us]; exact hx
      · rw [pk_un c]; exact (h4 r hr).2.2
  · show V 1 9 = ocF (V 7) (rc + 1)
    rw [h6]
    show _ = if V 7 rc = 0 then ocF (V 7) rc else ocF (V 7) rc + 1
    rw [if_pos (h5 rc (Nat.le_refl _) hn)]
  · rw [e r hr]; exact h7 r k hr hk hk8
theorem pI.fa {n rc r a : Nat} {V : Nat → Nat → Int32} {f : Int32} (h : pI n rc V) (hr : r < 16) (ha : a < n) (hf : -20 ≤ f.toInt ∧ f.toInt ≤ 20) : pI n rc (va_up V (24 + r) (upd (V (24 + r)) a f)) := by
  obtain ⟨h1, h2, h3, h4, h5, h6, h7⟩ := h
  have e : ∀ k, k < 24 → va_up V (24 + r) (upd (V (24 + r)) a f) k = V k := fun k hk => va_up_ne _ _ (by omega)
  unfold pI
  rw [e 1 (by omega), e 2 (by omega), e 3 (by omega), e 4 (by omega), e 5 (by omega), e 6 (by omega), e 7 (by omega)]
  refine ⟨h1, h2, h3, fun q hq => ⟨?_, (h4 q hq).2⟩, h5, h6, fun q k hq hk hk8 => ?_⟩
  · by_cases c : q = r
    · subst c; rw [va_up_self]; exact upd_i (P := fun z => -20 ≤ z.toInt ∧ z.toInt ≤ 20) (h4 q hq).1 hf
    · rw [va_up_ne _ _ (by omega)]; exact (h4 q hq).1
  · by_cases c : q = r
    · subst c; rw [va_up_self, pk_un (by omega)]; exact h7 q k hq hk hk8
    · rw [va_up_ne _ _ (by omega)]; exact h7 q k hq hk hk8
theorem mP.fa {n rc r a : Nat} {V μ : Nat → Nat → Int32} {f : Int32} (h : mP n rc V μ) (hr : r < 16) (ha : a < 8) : mP n rc (va_up V (24 + r) (upd (V (24 + r)) a f)) (va_up (th μ) 47 (upd (μ 47) (8 * r + a) f)) := by
  obtain ⟨h1, h2, h3, h4⟩ := h
  have e : ∀ k, k < 24 → va_up V (24 + r) (upd (V (24 + r)) a f) k = V k := fun k hk => va_up_ne _ _ (by omega)
  unfold mP
  rw [e 2 (by omega), e 3 (by omega), e 4 (by omega), e 5 (by omega), e 6 (by omega), e 7 (by omega)]
  refine ⟨h1, h2, h3, fun q hq => ⟨(h4 q hq).1, (h4 q hq).2.1, (h4 q hq).2.2.1, fun k hk => ?_⟩⟩
  show upd (μ 47) (8 * r + a) f (8 * q + k) = _
  by_cases c : q = r
  · subst c; rw [va_up_self]
    by_cases d : k = a
    · subst d; rw [pk_us, pk_us]
    · rw [pk_un (by omega), pk_un d]; exact (h4 q hq).2.2.2 k hk
  · rw [va_up_ne _ _ (by omega), pk_un (by omega)]; exact (h4 q hq).2.2.2 k hk
section STEPS
variable {l : Launch} {E : zE} {ad : Nat → Nat} {al c n rc sz : Nat} {V μ : Nat → Nat → Int32} {pv pa : Nat → Nat → Int64}
theorem OK.same {y : MethodName} {b : ByteArray} {nL : Nat} {rm : Room} {av : List Value} {r : Int32} (hC : CI n rc sz al c V) (hM : MM n rc sz V pv μ pa) (hW : wMet l y b nL (some .int) rm E av ad al μ pa (some (.int r)) (th μ) pa) : OK al c V V pv pv (xMet l y b nL rm E av ad al μ pa r) :=
  ⟨fun _ _ _ => rfl, rfl, n, rc, sz, hC, xMet.w hW rfl th_fx (hM.sc th_sc)⟩
theorem OK.sames {y : MethodName} {b : ByteArray} {nL : Nat} {rm : Room} {av : List Value} {r : Int32} (hC : CI n rc sz al c V) (hM : MM n rc sz V pv μ pa) (hW : sMet l y b nL (some .int) rm E av ad al μ pa (some (.int r)) μ pa) : OK al c V V pv pv (xMet l y b nL rm E av ad al μ pa r) :=
  ⟨fun _ _ _ => rfl, rfl, n, rc, sz, hC, xMet.s hW rfl fx.rf fun m g => hM.sc g⟩
/-- the problem changes -/
theorem OK.told {y : MethodName} {b : ByteArray} {nL : Nat} {rm : Room} {av : List Value} {r : Int32} {n' rc' : Nat} {V1 μ1 : Nat → Nat → Int32} (hC : CI n rc sz al c V) (hW : wMet l y b nL (some .int) rm E av ad al μ pa (some (.int r)) (ftN μ1) (ptL pa 8)) (hf : ∀ k, 40 ≤ k → V1 k = V k) (hP : pI n' rc' V1) (hk : kI V1) (hP' : mP n' rc' V1 μ1) (hb : μ1 40 15 = V1 9 2) (hk' : mK V1 μ1) (hx : fx μ pa μ1 pa) : OK al c V (ftM V1) pv (fgP pv 8) (xMet l y b nL rm E av ad al μ pa r) :=
  ⟨fun k h1 h2 => by rw [ftM_fr (by omega) (by omega) (by omega)]; exact hf k h1, rfl, n', rc', 0, forget_C hP hk hC.al6 (hC.num' fun k hk => hf k (by omega)), xMet.w hW rfl (ftN_fx hx) (forget_M hP' hb hk')⟩
theorem s_name {x y : Int32} (hC : CI n rc sz al c V) (hM : MM n rc sz V pv μ pa) : OK al c V (nmF n V pv x y).2.1 pv (nmF n V pv x y).2.2 (xMet l y_Mo_name b_Mo_name 3 (zR 1) E [.ref (ad 40), .int x, .int y] ad al μ pa (nmF n V pv x y).1) := by
  have hW := m_Mo_name (l := l) (E := E) (ad := ad) (al := al) (μ := μ) (pa := pa) (x := x) (y := y) hC.n8 hM.N
  revert hW
  unfold nmF nmM
  by_cases c1 : inW x 50 = 0
  · simp only [if_pos c1]; exact fun hW => OK.same hC hM hW
  simp only [if_neg c1]
  by_cases c2 : inW y 50 = 0
  · simp only [if_pos c2]; exact fun hW => OK.same hC hM hW
  simp only [if_neg c2]
  by_cases c3 : x ≤ y
  · simp only [if_pos c3]
    by_cases c4 : n < 8
    · simp only [if_pos c4]
      intro hW
      have b1 := inW_ok (L := 50) (by decide) c1
      have b2 := inW_ok (L := 50) (by decide) c2
      rw [Int32.le_iff_toInt_le] at c3
      refine OK.told (n' := n + 1) (rc' := rc) hC hW ?_ (hC.1.nm c4 (by omega) c3 (by omega)) hC.2.1 ?_ hM.2.1.2 hM.2.2.2.2.1 ?_
      · intro k hk; unfold anF; rw [va_up_ne _ _ (by omega), va_up_ne _ _ (by omega), va_up_ne _ _ (by omega)]
      · obtain ⟨h1, h2, h3, h4⟩ := hM.1
        refine ⟨rfl, h2, fun k hk => ⟨?_, ?_, (h3 k hk).2.2⟩, fun r hr => ⟨(h4 r hr).1, (h4 r hr).2.1, (h4 r hr).2.2.1, fun k hk => ?_⟩⟩
        · show upd (μ 41) n x k = upd (V 2) n x k
          unfold upd; rw [(h3 k hk).1]
        · show upd (μ 42) n y k = upd (V 3) n y k
          unfold upd; rw [(h3 k hk).2.1]
        · show μ 47 (8 * r + k) = anF V n x y (24 + r) k; unfold anF; rw [va_up_ne _ _ (by omega), va_up_ne _ _ (by omega), va_up_ne _ _ (by omega)]; exact (h4 r hr).2.2.2 k hk
      · exact ((th_fx.up ⟨by decide, by decide⟩).up ⟨by decide, by decide⟩).up ⟨by decide, by decide⟩
    · simp only [if_neg c4]; exact fun hW => OK.same hC hM hW
  · simp only [if_neg c3]; exact fun hW => OK.same hC hM hW
theorem in02 {x : Int32} : inF x 0 2 = 0 ↔ (x < 0 ∨ 2 < x) := by
  unfold inF
  by_cases c1 : x < 0
  · simp [c1]
  · by_cases c2 : 2 < x
    · simp [c1, c2]
    · simp [c1, c2]
theorem is02 {x : Int32} (h1 : ¬ x < 0) (h2 : ¬ 2 < x) : x = 0 ∨ x = 1 ∨ x = 2 := by
  rw [Int32.lt_iff_toInt_lt, i0] at h1
  rw [Int32.lt_iff_toInt_lt] at h2
  have e2 : (2 : Int32).toInt = 2 := by decide
  have e1 : (1 : Int32).toInt = 1 := by decide
  rcases (show x.toInt = 0 ∨ x.toInt = 1 ∨ x.toInt = 2 by omega) with h | h | h
  · exact Or.inl (Int32.toInt_inj.mp (by rw [h, i0]))
  · exact Or.inr (Or.inl (Int32.toInt_inj.mp (by rw [h, e1])))
  · exact Or.inr (Or.inr (Int32.toInt_inj.mp (by rw [h, e2])))
theorem s_row {x y : Int32} (hC : CI n rc sz al c V) (hM : MM n rc sz V pv μ pa) : OK al c V (roF rc V pv x y).2.1 pv (roF rc V pv x y).2.2 (xMet l y_Mo_row b_Mo_row 3 (zR 1) E [.ref (ad 40), .int x, .int y] ad al μ pa (roF rc V pv x y).1) := by
  have hW := m_Mo_row (l := l) (E := E) (ad := ad) (al := al) (μ := μ) (pa := pa) (x := x) (y := y) hC.r16 hM.M
  revert hW
  unfold roF roM
  by_cases c1 : x < 0
  · simp only [if_pos c1, if_pos (in02.mpr (Or.inl c1))]; exact fun hW => OK.same hC hM hW
  by_cases c1' : 2 < x
  · simp only [if_neg c1, if_pos c1', if_pos (in02.mpr (Or.inr c1'))]; exact fun hW => OK.same hC hM hW
  have c0 : ¬ inF x 0 2 = 0 := fun q => (in02.mp q).elim c1 c1'
  simp only [if_neg c1, if_neg c1', if_neg c0]
  by_cases c2 : inW y 1000 = 0
  · simp only [c2, not_true_eq_false, if_false]; exact fun hW => OK.same hC hM hW
  simp only [c2, not_false_eq_true, if_true]
  by_cases c4 : rc < 16
  · simp only [if_pos c4]
    intro hW
    have b2 := inW_ok (L := 1000) (by decide) c2
    refine OK.told (n' := n) (rc' := rc + 1) hC hW ?_ (hC.1.rw c4 (is02 c1 c1') ⟨by omega, by omega⟩) hC.2.1 ?_ hM.2.1.2 hM.2.2.2.2.1 ?_
    · intro k hk; unfold arF; rw [va_up_ne _ _ (by omega), va_up_ne _ _ (by omega), va_up_ne _ _ (by omega)]
    · obtain ⟨h1, h2, h3, h4⟩ := hM.1
      refine ⟨h1, rfl, h3, fun r hr => ⟨?_, ?_, (h4 r hr).2.2.1, fun k hk => ?_⟩⟩
      · show upd (μ 48) rc x r = upd (V 5) rc x r
        unfold upd; rw [(h4 r hr).1]
      · show upd (μ 49) rc y r = upd (V 6) rc y r
        unfold upd; rw [(h4 r hr).2.1]
      · show μ 47 (8 * r + k) = arF V rc x y (24 + r) k; unfold arF; rw [va_up_ne _ _ (by omega), va_up_ne _ _ (by omega), va_up_ne _ _ (by omega)]; exact (h4 r hr).2.2.2 k hk
    · exact ((th_fx.up ⟨by decide, by decide⟩).up ⟨by decide, by decide⟩).up ⟨by decide, by decide⟩
  · simp only [if_neg c4]; exact fun hW => OK.same hC hM hW
theorem s_factor {x y f : Int32} (hC : CI n rc sz al c V) (hM : MM n rc sz V pv μ pa) : OK al c V (faF V pv x y f).2.1 pv (faF V pv x y f).2.2 (xMet l y_Mo_factor b_Mo_factor 5 (zR 2) E [.ref (ad 40), .int x, .int y, .int f] ad al μ pa (faF V pv x y f).1) := by
  have hW := m_Mo_factor (l := l) (E := E) (ad := ad) (al := al) (μ := μ) (pa := pa) (x := x) (y := y) (f := f) hC.n8 hM.N hC.r16 hM.M
  have h8 := hC.n8
  have h16 := hC.r16
  revert hW
  unfold faF faM
  rw [hC.N, hC.M]
  by_cases c1 : hasN x (nI rc) = 0
  · simp only [if_pos c1]; exact fun hW => OK.same hC hM hW
  simp only [if_neg c1]
  by_cases c2 : hasN y (nI n) = 0
  · simp only [if_pos c2]; exact fun hW => OK.same hC hM hW
  simp only [if_neg c2]
  by_cases c3 : inW f 20 = 0
  · simp only [c3, not_true_eq_false, if_false]; exact fun hW => OK.same hC hM hW
  simp only [c3, not_false_eq_true, if_true]
  obtain ⟨r, hr, rfl⟩ := hasN_ok c1 (by omega)
  obtain ⟨a, ha, rfl⟩ := hasN_ok c2 (by omega)
  rw [nI_clamp (by omega), nI_clamp (by omega)]
  intro hW
  have b2 := inW_ok (L := 20) (by decide) c3
  rw [(hM.1.2.2.2 r (by omega)).2.2.2 a (by omega)] at hW
  refine OK.told (n' := n) (rc' := rc) hC hW ?_ (hC.1.fa (by omega) ha ⟨by omega, by omega⟩) ?_ (hM.1.fa (by omega) (by omega)) ?_ ?_ ?_
  · intro k hk; rw [va_up_ne _ _ (by omega)]
  · have h := hC.2.1
    unfold kI; rw [va_up_ne _ _ (by omega), va_up_ne _ _ (by omega)]; exact h
  · rw [va_up_ne V _ (by omega)]; exact hM.2.1.2
  · have h := hM.2.2.2.2.1
    unfold mK; rw [va_up_ne V _ (by omega), va_up_ne V _ (by omega)]; exact h
  · exact th_fx.up ⟨by decide, by decide⟩
theorem s_cost {x f : Int32} (hC : CI n rc sz al c V) (hM : MM n rc sz V pv μ pa) : OK al c V (coM V pv x f).2.1 pv (coM V pv x f).2.2 (xMet l y_Mo_cost b_Mo_cost 4 (zR 2) E [.ref (ad 40), .int x, .int f] ad al μ pa (coM V pv x f).1) := by
  have hW := m_Mo_cost (l := l) (E := E) (ad := ad) (al := al) (μ := μ) (pa := pa) (x := x) (f := f) hC.n8 hM.N
  have h8 := hC.n8
  revert hW
  unfold coM csM
  rw [hC.N]
  by_cases c1 : hasN x (nI n) = 0
  · simp only [if_pos c1]; exact fun hW => OK.same hC hM hW
  simp only [if_neg c1]
  by_cases c3 : inW f 20 = 0
  · simp only [c3, not_true_eq_false, if_false]; exact fun hW => OK.same hC hM hW
  simp only [c3, not_false_eq_true, if_true]
  obtain ⟨a, ha, rfl⟩ := hasN_ok c1 (by omega)
  rw [nI_clamp (by omega)]
  intro hW
  have b2 := inW_ok (L := 20) (by decide) c3
  rw [(hM.1.2.2.1 a (by omega)).2.2] at hW
  have e : ∀ r, va_up V 4 (upd (V 4) a f) (24 + r) = V (24 + r) := fun r => va_up_ne _ _ (by omega)
  refine OK.told (n' := n) (rc' := rc) hC hW ?_ ?_ hC.2.1 ?_ hM.2.1.2 hM.2.2.2.2.1 ?_
  · intro k hk; rw [va_up_ne _ _ (by omega)]
  · obtain ⟨h1, h2, h3, h4, h5, h6, h7⟩ := hC.1
    refine ⟨h1, h2, upd_i (P := fun z => -20 ≤ z.toInt ∧ z.toInt ≤ 20) h3 ⟨by omega, by omega⟩, fun r hr => ?_, h5, h6, fun r k hr => ?_⟩
    · rw [e r]; exact h4 r hr
    · rw [e r]; exact h7 r k hr
  · obtain ⟨h1, h2, h3, h4⟩ := hM.1
    refine ⟨h1, h2, fun k hk => ⟨(h3 k hk).1, (h3 k hk).2.1, ?_⟩, fun r hr => ⟨(h4 r hr).1, (h4 r hr).2.1, (h4 r hr).2.2.1, fun k hk => ?_⟩⟩
    · show upd (μ 45) a f k = upd (V 4) a f k
      unfold upd; rw [(h3 k hk).2.2]
    · rw [e r]; exact (h4 r hr).2.2.2 k hk
  · exact th_fx.up ⟨by decide, by decide⟩
theorem s_start {x f : Int32} (hC : CI n rc sz al c V) (hM : MM n rc sz V pv μ pa) : OK al c V (saF V pv x f).2.1 pv (saF V pv x f).2.2 (xMet l y_Mo_start b_Mo_start 4 (zR 2) E [.ref (ad 40), .int x, .int f] ad al μ pa (saF V pv x f).1) := by
  have hW := m_Mo_start (l := l) (E := E) (ad := ad) (al := al) (μ := μ) (pa := pa) (x := x) (f := f) hC.n8 hM.N
  have h8 := hC.n8
  revert hW
  unfold saF saM
  rw [hC.N]
  by_cases c1 : hasN x (nI n) = 0
  · simp only [if_pos c1]; exact fun hW => OK.same hC hM hW
  simp only [if_neg c1]
  by_cases c3 : inW f 50 = 0
  · simp only [c3, not_true_eq_false, if_false]; exact fun hW => OK.same hC hM hW
  simp only [c3, not_false_eq_true, if_true]
  obtain ⟨a, ha, rfl⟩ := hasN_ok c1 (by omega)
  rw [nI_clamp (by omega)]
  intro hW
  have b2 := inW_ok (L := 50) (by decide) c3
  rw [hM.2.2.2.2.1.1 a (by omega)] at hW
  have e : ∀ k, k ≠ 23 → va_up V 23 (upd (V 23) a f) k = V k := fun k hk => va_up_ne _ _ hk
  refine ⟨fun k h1 h2 => e k (by omega), rfl, n, rc, sz, ⟨?_, ?_, hC.2.2.1, hC.2.2.2.1, ?_⟩, xMet.w hW rfl (th_fx.up ⟨by decide, by decide⟩) ?_⟩
  · exact hC.1.fr fun k hk => e k (by omega)
  · exact ⟨upd_i (P := fun z => -50 ≤ z.toInt ∧ z.toInt ≤ 50) hC.2.1.1 ⟨by omega, by omega⟩, hC.2.1.2⟩
  · exact tI.fr hC.2.2.2.2 fun k hk => e k (by omega)
  · obtain ⟨m1, m2, m3, m4, m5, m6, m7⟩ := hM
    refine ⟨mP.fr (μ := va_up (th μ) 46 (upd (μ 46) a f)) m1 fun k hk => e k (by omega), m2, mT.fr (μ := va_up (th μ) 46 (upd (μ 46) a f)) m3 fun k hk => e k (by omega), m4, ⟨fun k hk => ?_, m5.2⟩, m6, m7⟩
    show upd (μ 46) a f k = upd (V 23) a f k
    unfold upd; rw [m5.1 k hk]
theorem s_price {x : Int32} (hC : CI n rc sz al c V) (hM : MM n rc sz V pv μ pa) : OK al c V V pv pv (xMet l y_Mo_price b_Mo_price 2 (zR 2) E [.ref (ad 40), .int x] ad al μ pa (prF V pv x)) := by
  have hW := m_Mo_price (l := l) (E := E) (ad := ad) (al := al) (μ := μ) (pa := pa) (x := x) hC.n8 hM.N
  have h8 := hC.n8
  revert hW
  unfold prF prM
  rw [hC.N]
  by_cases c1 : hasN x (nI n) = 0
  · simp only [if_pos c1]; exact fun hW => OK.same hC hM hW
  simp only [if_neg c1]
  obtain ⟨a, ha, rfl⟩ := hasN_ok c1 (by omega)
  rw [nI_clamp (by omega)]
  intro hW
  obtain ⟨e1, e2⟩ := hM.2.2.2.2.2.1 a (by omega)
  rw [e1, e2, prm_prc (hC.2.2.2.1 a (by omega)).1] at hW
  exact OK.same hC hM hW
theorem s_boundOf {x y w : Int32} (hC : CI n rc sz al c V) (hM : MM n rc sz V pv μ pa) : OK al c V V pv pv (xMet l y_Mo_boundOf b_Mo_boundOf 4 (zR 2) E [.ref (ad 40), .int x, .int y, .int w] ad al μ pa (bfF sz V x y w)) := by
  have hW := m_Mo_boundOf (l := l) (E := E) (ad := ad) (al := al) (μ := μ) (pa := pa) (x := x) (y := y) (w := w) hC.n8 hM.N hM.S hC.sz6
  have h8 := hC.n8
  have h6 := hC.sz6
  revert hW
  unfold bfF bfM
  rw [hC.N]
  rcases atO_cases x (sz := sz) (by omega) with ⟨c1, ea⟩ | ⟨j, hj, rfl, ea⟩
  · have c0 : hasN x (nI sz) = 0 := by
      unfold hasN
      rcases c1 with c1 | c1
      · rw [if_pos c1]
      · by_cases d : x < 0
        · rw [if_pos d]
        · rw [if_neg d, if_pos c1]
    simp only [ea, if_pos c0]; exact fun hW => OK.same hC hM hW
  have c0 : ¬ hasN (nI j) (nI sz) = 0 := by
    unfold hasN
    rw [if_neg (nI_pos (by omega)), if_neg (nI_ge hj (by omega))]; decide
  simp only [ea, if_neg c0, nI_clamp (show j < 2 ^ 31 by omega)]
  by_cases c1 : hasN y (nI n) = 0
  · simp only [if_pos c1, c1, not_true_eq_false, if_false]; exact fun hW => OK.same hC hM hW
  simp only [if_neg c1, c1, not_false_eq_true, if_true]
  obtain ⟨a, ha, rfl⟩ := hasN_ok c1 (by omega)
  rw [nI_clamp (show a < 2 ^ 31 by omega)]
  obtain ⟨e1, e2⟩ := (hM.2.2.1.2 j hj).2.2.2.2.2.2.2 a ha
  by_cases d0 : w = 0
  · subst d0
    rw [if_pos rfl, if_pos (show ¬ inF 0 0 1 = 0 by decide), if_pos (show ¬ (0 : Int32) = 1 by decide), e2]
    exact fun hW => OK.same hC hM hW
  by_cases d1 : w = 1
  · subst d1
    rw [if_neg d0, if_pos rfl, if_pos (show ¬ inF 1 0 1 = 0 by decide), if_neg (show ¬ ¬ (1 : Int32) = 1 by decide), e1]
    exact fun hW => OK.same hC hM hW
  have d2 : ¬ ¬ inF w 0 1 = 0 := by
    intro q; apply q
    unfold inF
    by_cases u : w < 0
    · rw [if_pos u]
    · rw [if_neg u, if_pos]
      rw [Int32.lt_iff_toInt_lt, i0] at u
      rw [Int32.lt_iff_toInt_lt]
      have e1 : (1 : Int32).toInt = 1 := by decide
      have n0 : ¬ w.toInt = 0 := fun z => d0 (Int32.toInt_inj.mp (by rw [z, i0]))
      have n1 : ¬ w.toInt = 1 := fun z => d1 (Int32.toInt_inj.mp (by rw [z, e1]))
      omega
  rw [if_neg d0, if_neg d1, if_neg d2]
  exact fun hW => OK.same hC hM hW
theorem s_bound (hC : CI n rc sz al c V) (hM : MM n rc sz V pv μ pa) : OK al c V V pv pv (xMet l y_Mo_bound b_Mo_bound 3 (zR 2) E [.ref (ad 40)] ad al μ pa (boF sz V)) := by
  have hW := m_Mo_bound (l := l) (E := E) (ad := ad) (al := al) (μ := μ) (pa := pa) hC.n8 hM.1 hM.2.2.1 hC.sz6 hC.tB hC.fc hM.2.1
  revert hW
  unfold boF bdM
  rw [hC.S]
  exact fun hW => OK.sames hC hM hW
end STEPS
