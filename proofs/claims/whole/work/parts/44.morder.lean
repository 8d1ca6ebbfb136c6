/-! MODEL: order -/
theorem oc_nI {f : Nat → Int32} : ∀ r, ∃ m, m ≤ r ∧ ocF f r = nI m ∧ (m = 0 ↔ ∀ q, q < r → f q = 0)
  | 0 => ⟨0, Nat.le_refl _, rfl, ⟨fun _ q h => absurd h (Nat.not_lt_zero _), fun _ => rfl⟩⟩
  | r + 1 => by
    obtain ⟨m, h1, h2, h3⟩ := oc_nI (f := f) r
    have e : ocF f (r + 1) = if f r = 0 then ocF f r else ocF f r + 1 := rfl
    by_cases c : f r = 0
    · rw [if_pos c] at e
      refine ⟨m, by omega, by rw [e, h2], h3.trans ⟨fun h q hq => ?_, fun h q hq => h q (by omega)⟩⟩
      by_cases d : q = r
      · rw [d]; exact c
      · exact h q (by omega)
    · rw [if_neg c] at e
      refine ⟨m + 1, by omega, by rw [e, h2, nI_1], ⟨fun h => by omega, fun h => absurd (h r (by omega)) c⟩⟩
theorem oc_le {f : Nat → Int32} {r : Nat} (hr : r ≤ 16) : ocF f r ≤ 0 ↔ ∀ q, q < r → f q = 0 := by
  obtain ⟨m, h1, h2, h3⟩ := oc_nI (f := f) r
  rw [h2, ← h3, Int32.le_iff_toInt_le, nI_toInt (by omega), i0]
  omega
/-- the rows that orders change -/
def oK (k : Nat) : Prop := k = 1 ∨ k = 5 ∨ k = 6 ∨ k = 7 ∨ (24 ≤ k ∧ k < 40)
section AO
variable {m : Nat → Nat → Int32} {n rc a b : Nat}
theorem ao_1 (h : rc < 16) : aoF m rc a b 1 = upd (upd (m 1) 8 (nI (rc + 1))) 9 (m 1 9 + 1) := by
  unfold aoF; rw [if_pos h]
  unfold ao2 ao1
  show upd (va_up (va_up (arF m rc 0 0) (24 + rc) _) (24 + rc) _ 1) 9 (va_up (va_up (arF m rc 0 0) (24 + rc) _) (24 + rc) _ 1 9 + 1) = _
  rw [va_up_ne _ _ (by omega), va_up_ne _ _ (by omega)]; rfl
theorem ao_5 (h : rc < 16) : aoF m rc a b 5 = upd (m 5) rc 0 := by
  unfold aoF; rw [if_pos h]
  unfold ao2 ao1
  show va_up (va_up (arF m rc 0 0) (24 + rc) _) (24 + rc) _ 5 = _
  rw [va_up_ne _ _ (by omega), va_up_ne _ _ (by omega)]; rfl
theorem ao_6 (h : rc < 16) : aoF m rc a b 6 = upd (m 6) rc 0 := by
  unfold aoF; rw [if_pos h]
  unfold ao2 ao1
  show va_up (va_up (arF m rc 0 0) (24 + rc) _) (24 + rc) _ 6 = _
  rw [va_up_ne _ _ (by omega), va_up_ne _ _ (by omega)]; rfl
theorem ao_7 (h : rc < 16) : aoF m rc a b 7 = upd (m 7) rc 1 := by
  unfold aoF; rw [if_pos h]
  unfold ao2 ao1
  show upd (va_up (va_up (arF m rc 0 0) (24 + rc) _) (24 + rc) _ 7) rc 1 = _
  rw [va_up_ne _ _ (by omega), va_up_ne _ _ (by omega)]; rfl
theorem ar_fr {k : Nat} {x y : Int32} (h1 : k ≠ 1) (h2 : k ≠ 5) (h3 : k ≠ 6) : arF m rc x y k = m k := by
  unfold arF; rw [va_up_ne _ _ h1, va_up_ne _ _ h3, va_up_ne _ _ h2]
theorem ao_r (h : rc < 16) : aoF m rc a b (24 + rc) = upd (upd (m (24 + rc)) a 1) b (-1) := by
  unfold aoF; rw [if_pos h]
  unfold ao2
  rw [va_up_ne _ _ (by omega), va_up_ne _ _ (by omega)]
  unfold ao1
  rw [va_up_self, va_up_self, ar_fr (by omega) (by omega) (by omega)]
theorem ao_o (h : rc < 16) {k : Nat} (h1 : k ≠ 1) (h5 : k ≠ 5) (h6 : k ≠ 6) (h7 : k ≠ 7) (hk : k ≠ 24 + rc) : aoF m rc a b k = m k := by
  unfold aoF; rw [if_pos h]
  unfold ao2
  rw [va_up_ne _ _ h1, va_up_ne _ _ h7]
  unfold ao1
  rw [va_up_ne _ _ hk, va_up_ne _ _ hk, ar_fr h1 h5 h6]
theorem pI.ao (hI : pI n rc m) (h : rc < 16) (ha : a < n) (hb : b < n) : pI n (rc + 1) (aoF m rc a b) := by
  obtain ⟨h1, h2, h3, h4, h5, h6, h7⟩ := hI
  unfold pI
  rw [ao_1 h, ao_5 h, ao_6 h, ao_7 h, ao_o h (k := 2) (by omega) (by omega) (by omega) (by omega) (by omega), ao_o h (k := 3) (by omega) (by omega) (by omega) (by omega) (by omega), ao_o h (k := 4) (by omega) (by omega) (by omega) (by omega) (by omega)]
  refine ⟨⟨h1.1, rfl, h1.2.2.1, by omega⟩, h2, h3, fun r hr => ⟨?_, ?_, ?_⟩, fun r h8 hr => ?_, ?_, fun r k hr hk hk8 => ?_⟩
  · by_cases c : r = rc
    · subst c
      rw [ao_r h]
      exact upd_i (P := fun z => -20 ≤ z.toInt ∧ z.toInt ≤ 20) (upd_i (P := fun z => -20 ≤ z.toInt ∧ z.toInt ≤ 20) (h4 r hr).1 (by decide)) (by decide)
    · rw [ao_o h (by omega) (by omega) (by omega) (by omega) (by omega)]; exact (h4 r hr).1
  · by_cases c : r = rc
    · subst c; rw [pk_us]; decide
    · rw [pk_un c]; exact (h4 r hr).2.1
  · by_cases c : r = rc
    · subst c; rw [pk_us]; exact Or.inl rfl
    · rw [pk_un c]; exact (h4 r hr).2.2
  · rw [pk_un (by omega)]; exact h5 r (by omega) hr
  · show m 1 9 + 1 = if upd (m 7) rc 1 rc = 0 then ocF (upd (m 7) rc 1) rc else ocF (upd (m 7) rc 1) rc + 1
    rw [pk_us, if_neg (by decide), h6, oc_congr (f := m 7) (g := upd (m 7) rc 1) rc fun q hq => (pk_un (by omega)).symm]
  · by_cases c : r = rc
    · subst c
      rw [ao_r h, pk_un (by omega), pk_un (by omega)]; exact h7 r k hr hk hk8
    · rw [ao_o h (by omega) (by omega) (by omega) (by omega) (by omega)]; exact h7 r k hr hk hk8
end AO
theorem aos_inv {n : Nat} : ∀ (k a : Nat) (m : Nat → Nat → Int32) (rc : Nat), a + k = n → pI n rc m → ∃ rcF, pI n rcF (aosF n k a m rc) ∧ (∀ q, ¬ oK q → aosF n k a m rc q = m q) ∧ ((aosF n k a m rc = m ∧ rcF = rc) ∨ ¬ aosF n k a m rc 1 9 ≤ 0)
  | 0, a, m, rc, _, hI => ⟨rc, hI, fun _ _ => rfl, Or.inl ⟨rfl, rfl⟩⟩
  | k + 1, a, m, rc, hk, hI => by
    have h8 := hI.1.2.2.1
    unfold aosF
    rcases naL_spec m n rc a (n - (a + 1)) (a + 1) with e | ⟨q, q1, q2, e⟩
    · rw [if_pos e]; exact aos_inv k (a + 1) m rc (by omega) hI
    · rw [if_neg (by rw [e]; exact ne_m2 (by omega)), e, nI_clamp (by omega)]
      by_cases c : rc < 16
      · rw [if_pos c]
        obtain ⟨rcF, g1, g2, g3⟩ := aos_inv k (a + 1) (aoF m rc a q) (rc + 1) (by omega) (hI.ao c (by omega) (by omega))
        refine ⟨rcF, g1, fun i hi => ?_, ?_⟩
        · rw [g2 i hi]
          unfold oK at hi
          exact ao_o c (by omega) (by omega) (by omega) (by omega) (by omega)
        · right
          rcases g3 with ⟨g3, rfl⟩ | g3
          · have g4 := g1.2.2.2.2.2.1
            rw [g4, oc_le g1.1.2.2.2]
            intro z
            have := z rc (by omega)
            rw [g3, ao_7 c, pk_us] at this
            exact absurd this (by decide)
          · exact g3
      · rw [if_neg c]
        have e2 : aoF m rc a q = m := by unfold aoF; rw [if_neg c]
        rw [e2]; exact aos_inv k (a + 1) m rc (by omega) hI
/-- of the model, what orders leave -/
def oM (μ m : Nat → Nat → Int32) : Prop := (∀ k, k ≠ 40 → k ≠ 47 → k ≠ 48 → k ≠ 49 → k ≠ 50 → m k = μ k) ∧ ∀ i, i ≠ 0 → i ≠ 8 → m 40 i = μ 40 i
def ao_m (μ : Nat → Nat → Int32) (rc a b : Nat) : Nat → Nat → Int32 := va_up (va_up (va_up (va_up (va_up (va_up μ 47 (upd (μ 47) (8 * rc + a) 1)) 47 (upd (upd (μ 47) (8 * rc + a) 1) (8 * rc + b) (-1))) 48 (upd (μ 48) rc 0)) 49 (upd (μ 49) rc 0)) 50 (upd (μ 50) rc 1)) 40 (upd (μ 40) 8 (nI rc + 1))
theorem ao_m_P {n rc a b : Nat} {m μ : Nat → Nat → Int32} (hP : mP n rc m μ) (h : rc < 16) (ha : a < 8) (hb : b < 8) : mP n (rc + 1) (aoF m rc a b) (ao_m μ rc a b) := by
  obtain ⟨h1, h2, h3, h4⟩ := hP
  unfold mP
  rw [ao_5 h, ao_6 h, ao_7 h, ao_o h (k := 2) (by omega) (by omega) (by omega) (by omega) (by omega), ao_o h (k := 3) (by omega) (by omega) (by omega) (by omega) (by omega), ao_o h (k := 4) (by omega) (by omega) (by omega) (by omega) (by omega)]
  refine ⟨h1, nI_1 _, h3, fun r hr => ⟨?_, ?_, ?_, fun k hk => ?_⟩⟩
  · show upd (μ 48) rc 0 r = upd (m 5) rc 0 r
    unfold upd; rw [(h4 r hr).1]
  · show upd (μ 49) rc 0 r = upd (m 6) rc 0 r
    unfold upd; rw [(h4 r hr).2.1]
  · show upd (μ 50) rc 1 r = upd (m 7) rc 1 r
    unfold upd; rw [(h4 r hr).2.2.1]
  · show upd (upd (μ 47) (8 * rc + a) 1) (8 * rc + b) (-1) (8 * r + k) = _
    by_cases c : r = rc
    · subst c
      rw [ao_r h]
      by_cases d : k = b
      · subst d; rw [pk_us, pk_us]
      · rw [pk_un (by omega), pk_un d]
        by_cases d2 : k = a
        · subst d2; rw [pk_us, pk_us]
        · rw [pk_un (by omega), pk_un d2]; exact (h4 r hr).2.2.2 k hk
    · rw [ao_o h (by omega) (by omega) (by omega) (by omega) (by omega), pk_un (by omega), pk_un (by omega)]; exact (h4 r hr).2.2.2 k hk
theorem oM.ao {μ m : Nat → Nat → Int32} {rc a b : Nat} (h : oM μ m) : oM μ (ao_m m rc a b) := by
  refine ⟨fun k h1 h2 h3 h4 h5 => ?_, fun i h0 h8 => ?_⟩
  · unfold ao_m
    rw [va_up_ne _ _ h1, va_up_ne _ _ h5, va_up_ne _ _ h4, va_up_ne _ _ h3, va_up_ne _ _ h2, va_up_ne _ _ h2]
    exact h.1 k h1 h2 h3 h4 h5
  · show upd (m 40) 8 _ i = _
    rw [pk_un h8]; exact h.2 i h0 h8
theorem xMet.imp {l : Launch} {y : MethodName} {b : ByteArray} {nL : Nat} {rm : Room} {E : zE} {av : List Value} {ad : Nat → Nat} {al : Nat} {μ : Nat → Nat → Int32} {pa : Nat → Nat → Int64} {r : Int32} {Q Q' : (Nat → Nat → Int32) → (Nat → Nat → Int64) → Prop} (h : xMet l y b nL rm E av ad al μ pa r Q) (hq : ∀ m pm, Q m pm → Q' m pm) : xMet l y b nL rm E av ad al μ pa r Q' :=
  fun hh hR => zMet.weak (h hh hR) fun _ _ _ ⟨a, b, m, pm, c, d, e⟩ => ⟨a, b, m, pm, c, hq m pm d, e⟩
section MORDER
variable {l : Launch} {E : zE} {ad : Nat → Nat} {al c n rc sz : Nat} {V μ : Nat → Nat → Int32} {pv pa : Nat → Nat → Int64}
set_option maxRecDepth 100000 in
set_option maxHeartbeats 4000000 in
theorem lpA_Mo_order {X : zX} {post : Option Value → (Nat → Nat) → zH → Prop} (C : zc X E b_Mo_order 4 "BranchTreesModel" (zR 2)) (Z : zr X E (some .int) 0 0 post) {w2 w3 : Option Value} (hrc : rc ≤ 16) (hM : μ 40 8 = nI rc) (h7 : ∀ q, q < 16 → μ 50 q = V 7 q) {h : zH} (hR : zRep E ad al μ pa h) (hpost : ¬ (∀ q, q < rc → V 7 q = 0) → post (some (.int (-2))) ad h) (kx : (∀ q, q < rc → V 7 q = 0) → zz X E 4 ad 0 0 33 [some (.ref (ad 40)), some (.int (nI rc)), w2, w3] [] h) :
    ∀ (d r : Nat), rc - r = d → r ≤ rc → (∀ q, q < r → V 7 q = 0) → zz X E 4 ad 0 0 7 [some (.ref (ad 40)), some (.int (nI r)), w2, w3] [] h := by
  intro d
  induction d with
  | zero =>
    intro r hd hr hq
    have e : r = rc := by omega
    subst e
    refine zz_iload_n C d_Mo_order_7 rfl rfl ?_
    refine zz_aload_n C d_Mo_order_8 rfl rfl ?_
    refine zz_getV C hR (nI r) _ d_Mo_order_9 zf_Mo_115 rfl rfl hM ?_
    refine zz_icmp_ge (tgt := 33) C d_Mo_order_12 (by decide) (fun c_12 => ?_) (fun c_12 => ?_)
    · exact kx hq
    · exact absurd (nI_le (Nat.le_refl _) (by omega)) c_12
  | succ d ih =>
    intro r hd hr hq
    have hlt : r < rc := by omega
    have K := ih (r + 1) (by omega) hlt
    refine zz_iload_n C d_Mo_order_7 rfl rfl ?_
    refine zz_aload_n C d_Mo_order_8 rfl rfl ?_
    refine zz_getV C hR (nI rc) _ d_Mo_order_9 zf_Mo_115 rfl rfl hM ?_
    refine zz_icmp_ge (tgt := 33) C d_Mo_order_12 (by decide) (fun c_12 => ?_) (fun c_12 => ?_)
    · exact absurd c_12 (nI_ge hlt (by omega))
    · refine zz_aload_n C d_Mo_order_15 rfl rfl ?_
      refine zz_get C d_Mo_order_16 zf_Mo_42 ((hR _).trans rfl) rfl ?_
      refine zz_iload_n C d_Mo_order_19 rfl rfl ?_
      refine zz_zaldV (j := r) C hR (V 7 r) d_Mo_order_20 (fun _ _ => rfl) rfl (by omega) (by decide) (h7 r (by omega)) ?_
      refine zz_if_eq (tgt := 27) C d_Mo_order_21 (by decide) (fun c_21 => ?_) (fun c_21 => ?_)
      · refine zz_iinc C d_Mo_order_27 rfl (nI_inc _) (by decide) rfl ?_
        refine zz_goto (tgt := 7) C d_Mo_order_30 (by decide) ?_
        refine K fun q hq' => ?_
        by_cases e : q = r
        · rw [e]; exact c_21
        · exact hq q (by omega)
      · refine zz_bipush (v := -2) C d_Mo_order_24 (by decide) ?_
        refine zz_iret C Z d_Mo_order_26 ?_
        exact hpost fun z => c_21 (z r hlt)
set_option maxRecDepth 100000 in
set_option maxHeartbeats 4000000 in
theorem lpW_Mo_order {X : zX} {post : Option Value → (Nat → Nat) → zH → Prop} (C : zc X E b_Mo_order 4 "BranchTreesModel" (zR 2)) (Z : zr X E (some .int) 0 0 post) (hI : pI n rc V) (hP : mP n rc V μ) {a : Nat} {x : Int32} (ha : a < n) {h : zH} (hR : zRep E ad al μ pa h) {T : Int32} (kx : ∀ b, (T = -2 ∧ b = n) ∨ (b < n ∧ T = nI b) → zz X E 4 ad 0 0 72 [some (.ref (ad 40)), some (.int x), some (.int (nI a)), some (.int (nI b))] [] h) :
    ∀ (d b : Nat), n - b = d → b ≤ n → naL V n rc a d b = T → zz X E 4 ad 0 0 49 [some (.ref (ad 40)), some (.int x), some (.int (nI a)), some (.int (nI b))] [] h := by
  have h8 := hI.1.2.2.1
  intro d
  induction d with
  | zero =>
    intro b hd hb hT
    have e : b = n := by omega
    subst e
    subst hT
    refine zz_iload_n C d_Mo_order_49 rfl rfl ?_
    refine zz_aload_n C d_Mo_order_50 rfl rfl ?_
    refine zz_getV C hR (nI b) _ d_Mo_order_51 zf_Mo_85 rfl rfl hP.1 ?_
    refine zz_icmp_ge (tgt := 72) C d_Mo_order_54 (by decide) (fun c_54 => ?_) (fun c_54 => ?_)
    · exact kx _ (Or.inl ⟨rfl, rfl⟩)
    · exact absurd (nI_le (Nat.le_refl _) (by omega)) c_54
  | succ d ih =>
    intro b hd hb hT
    have hlt : b < n := by omega
    have K := ih (b + 1) (by omega) hlt
    unfold naL at hT
    refine zz_iload_n C d_Mo_order_49 rfl rfl ?_
    refine zz_aload_n C d_Mo_order_50 rfl rfl ?_
    refine zz_getV C hR (nI n) _ d_Mo_order_51 zf_Mo_85 rfl rfl hP.1 ?_
    refine zz_icmp_ge (tgt := 72) C d_Mo_order_54 (by decide) (fun c_54 => ?_) (fun c_54 => ?_)
    · exact absurd c_54 (nI_ge hlt (by omega))
    · refine zz_aload_n C d_Mo_order_57 rfl rfl ?_
      refine zz_iload_n C d_Mo_order_58 rfl rfl ?_
      refine zz_iload_n C d_Mo_order_59 rfl rfl ?_
      refine zz_callVr (e := 1) C hR d_Mo_order_60 mk_Mo_130 zy_Mo_areAlike (m_Mo_areAlike hI hP ha hlt) ⟨by decide, by decide⟩ ⟨Nat.zero_le _, Nat.zero_le _⟩ rfl rfl rfl rfl (Nat.le_of_ble_eq_true rfl) ?_
      refine zz_if_ne (tgt := 72) C d_Mo_order_63 (by decide) (fun c_63 => ?_) (fun c_63 => ?_)
      · rw [if_neg c_63] at hT
        exact kx _ (Or.inr ⟨hlt, hT.symm⟩)
      · rw [if_pos c_63] at hT
        refine zz_iinc C d_Mo_order_66 rfl (nI_inc _) (by decide) rfl ?_
        refine zz_goto (tgt := 49) C d_Mo_order_69 (by decide) ?_
        exact K hT
set_option maxRecDepth 100000 in
set_option maxHeartbeats 4000000 in
theorem lp_Mo_order {X : zX} {post : Option Value → (Nat → Nat) → zH → Prop} (C : zc X E b_Mo_order 4 "BranchTreesModel" (zR 2)) (Z : zr X E (some .int) 0 0 post) {μ0 F : Nat → Nat → Int32} (kx : ∀ (μ : Nat → Nat → Int32) (rc : Nat) (w : Option Value) (h : zH), pI n rc F → mP n rc F μ → oM μ0 μ → zRep E ad al μ pa h → zz X E 4 ad 0 0 168 [some (.ref (ad 40)), some (.int (F 1 9)), some (.int (nI n)), w] [] h) :
    ∀ (d a : Nat) (V μ : Nat → Nat → Int32) (rc : Nat) (w : Option Value) (h : zH), n - a = d → a ≤ n → pI n rc V → mP n rc V μ → oM μ0 μ → zRep E ad al μ pa h → aosF n d a V rc = F → zz X E 4 ad 0 0 37 [some (.ref (ad 40)), some (.int (V 1 9)), some (.int (nI a)), w] [] h := by
  intro d
  induction d with
  | zero =>
    intro a V μ rc w h hd ha hI hP hO hR hF
    have h8 := hI.1.2.2.1
    have e : a = n := by omega
    subst e
    subst hF
    refine zz_iload_n C d_Mo_order_37 rfl rfl ?_
    refine zz_aload_n C d_Mo_order_38 rfl rfl ?_
    refine zz_getV C hR (nI a) _ d_Mo_order_39 zf_Mo_85 rfl rfl hP.1 ?_
    refine zz_icmp_ge (tgt := 168) C d_Mo_order_42 (by decide) (fun c_42 => ?_) (fun c_42 => ?_)
    · exact kx _ _ _ _ hI hP hO hR
    · exact absurd (nI_le (Nat.le_refl _) (by omega)) c_42
  | succ d ih =>
    intro a V μ rc w h hd ha hI hP hO hR hF
    have h8 := hI.1.2.2.1
    have h16 := hI.1.2.2.2
    have hlt : a < n := by omega
    unfold aosF at hF
    have eW : d = n - (a + 1) := by omega
    refine zz_iload_n C d_Mo_order_37 rfl rfl ?_
    refine zz_aload_n C d_Mo_order_38 rfl rfl ?_
    refine zz_getV C hR (nI n) _ d_Mo_order_39 zf_Mo_85 rfl rfl hP.1 ?_
    refine zz_icmp_ge (tgt := 168) C d_Mo_order_42 (by decide) (fun c_42 => ?_) (fun c_42 => ?_)
    · exact absurd c_42 (nI_ge hlt (by omega))
    · refine zz_iload_n C d_Mo_order_45 rfl rfl ?_
      refine zz_iconst (v := 1) C d_Mo_order_46 (by decide) ?_
      refine zz_iadd C d_Mo_order_47 ?_
      rw [nI_1]
      refine zz_istore_n C d_Mo_order_48 rfl (by decide) rfl ?_
      refine lpW_Mo_order C Z hI hP hlt hR (T := naL V n rc a (n - (a + 1)) (a + 1)) (fun b hb => ?_) (n - (a + 1)) (a + 1) rfl (by omega) rfl
      rcases hb with ⟨e, rfl⟩ | ⟨hb, e⟩
      · rw [if_pos e] at hF
        refine zz_iload_n C d_Mo_order_72 rfl rfl ?_
        refine zz_aload_n C d_Mo_order_73 rfl rfl ?_
        refine zz_getV C hR (nI b) _ d_Mo_order_74 zf_Mo_85 rfl rfl hP.1 ?_
        refine zz_icmp_ge (tgt := 162) C d_Mo_order_77 (by decide) (fun c_77 => ?_) (fun c_77 => ?_)
        · refine zz_iinc C d_Mo_order_162 rfl (nI_inc _) (by decide) rfl ?_
          refine zz_goto (tgt := 37) C d_Mo_order_165 (by decide) ?_
          exact ih (a + 1) V μ rc _ h (by omega) hlt hI hP hO hR hF
        · exact absurd (nI_le (Nat.le_refl _) (by omega)) c_77
      · rw [if_neg (by rw [e]; exact ne_m2 (by omega)), e, nI_clamp (by omega)] at hF
        refine zz_iload_n C d_Mo_order_72 rfl rfl ?_
        refine zz_aload_n C d_Mo_order_73 rfl rfl ?_
        refine zz_getV C hR (nI n) _ d_Mo_order_74 zf_Mo_85 rfl rfl hP.1 ?_
        refine zz_icmp_ge (tgt := 162) C d_Mo_order_77 (by decide) (fun c_77 => ?_) (fun c_77 => ?_)
        · exact absurd c_77 (nI_ge hb (by omega))
        · refine zz_aload_n C d_Mo_order_80 rfl rfl ?_
          refine zz_getV C hR (nI rc) _ d_Mo_order_81 zf_Mo_115 rfl rfl hP.2.1 ?_
          refine zz_bipush (v := 16) C d_Mo_order_84 (by decide) ?_
          refine zz_icmp_ge (tgt := 162) C d_Mo_order_86 (by decide) (fun c_86 => ?_) (fun c_86 => ?_)
          · have c6 : ¬ rc < 16 := fun z => absurd c_86 (nI_ge (b := 16) z (by omega))
            rw [if_neg c6] at hF
            have e2 : aoF V rc a b = V := by unfold aoF; rw [if_neg c6]
            rw [e2] at hF
            refine zz_iinc C d_Mo_order_162 rfl (nI_inc _) (by decide) rfl ?_
            refine zz_goto (tgt := 37) C d_Mo_order_165 (by decide) ?_
            first | exact ih (a + 1) V μ rc _ h (by omega) hlt hI hP hO hR hF | (have K := ih (a + 1) (aoF V rc a b) (ao_m μ rc a b) (rc + 1) (some (.int (nI b))) h (by omega) hlt (hI.ao c6 hlt hb) (ao_m_P hP c6 (by omega) (by omega)) hO.ao hR hF; rw [ao_1 c6] at K; exact K)
          · have c6 : rc < 16 := Nat.lt_of_not_le fun z => c_86 (nI_le (a := 16) z (by omega))
            rw [if_pos c6] at hF
            refine zz_aload_n C d_Mo_order_89 rfl rfl ?_
            refine zz_get C d_Mo_order_90 zf_Mo_33 ((hR _).trans rfl) rfl ?_
            refine zz_bipush (v := 8) C d_Mo_order_93 (by decide) ?_
            refine zz_aload_n C d_Mo_order_95 rfl rfl ?_
            refine zz_getV C hR (nI rc) _ d_Mo_order_96 zf_Mo_115 rfl rfl hP.2.1 ?_
            refine zz_imul C d_Mo_order_99 ?_
            refine zz_iload_n C d_Mo_order_100 rfl rfl ?_
            refine zz_iadd C d_Mo_order_101 ?_
            refine zz_iconst (v := 1) C d_Mo_order_102 (by decide) ?_
            refine zz_iastR (j := 8 * rc + a) C hR d_Mo_order_103 (fun _ _ => rfl) (ix8 rc a) (by omega) (by decide) (fun h hR => ?_)
            refine zz_aload_n C d_Mo_order_104 rfl rfl ?_
            refine zz_get C d_Mo_order_105 zf_Mo_33 ((hR _).trans rfl) rfl ?_
            refine zz_bipush (v := 8) C d_Mo_order_108 (by decide) ?_
            refine zz_aload_n C d_Mo_order_110 rfl rfl ?_
            refine zz_getV C hR (nI rc) _ d_Mo_order_111 zf_Mo_115 rfl rfl hP.2.1 ?_
            refine zz_imul C d_Mo_order_114 ?_
            refine zz_iload_n C d_Mo_order_115 rfl rfl ?_
            refine zz_iadd C d_Mo_order_116 ?_
            refine zz_iconst (v := -1) C d_Mo_order_117 (by decide) ?_
            refine zz_iastR (j := 8 * rc + b) C hR d_Mo_order_118 (fun _ _ => rfl) (ix8 rc b) (by omega) (by decide) (fun h hR => ?_)
            refine zz_aload_n C d_Mo_order_119 rfl rfl ?_
            refine zz_get C d_Mo_order_120 zf_Mo_36 ((hR _).trans rfl) rfl ?_
            refine zz_aload_n C d_Mo_order_123 rfl rfl ?_
            refine zz_getV C hR (nI rc) _ d_Mo_order_124 zf_Mo_115 rfl rfl hP.2.1 ?_
            refine zz_iconst (v := 0) C d_Mo_order_127 (by decide) ?_
            refine zz_iastR (j := rc) C hR d_Mo_order_128 (fun _ _ => rfl) rfl (by omega) (by decide) (fun h hR => ?_)
            refine zz_aload_n C d_Mo_order_129 rfl rfl ?_
            refine zz_get C d_Mo_order_130 zf_Mo_39 ((hR _).trans rfl) rfl ?_
            refine zz_aload_n C d_Mo_order_133 rfl rfl ?_
            refine zz_getV C hR (nI rc) _ d_Mo_order_134 zf_Mo_115 rfl rfl hP.2.1 ?_
            refine zz_iconst (v := 0) C d_Mo_order_137 (by decide) ?_
            refine zz_iastR (j := rc) C hR d_Mo_order_138 (fun _ _ => rfl) rfl (by omega) (by decide) (fun h hR => ?_)
            refine zz_aload_n C d_Mo_order_139 rfl rfl ?_
            refine zz_get C d_Mo_order_140 zf_Mo_42 ((hR _).trans rfl) rfl ?_
            refine zz_aload_n C d_Mo_order_143 rfl rfl ?_
            refine zz_getV C hR (nI rc) _ d_Mo_order_144 zf_Mo_115 rfl rfl hP.2.1 ?_
            refine zz_iconst (v := 1) C d_Mo_order_147 (by decide) ?_
            refine zz_zastR (j := rc) C hR d_Mo_order_148 (fun _ _ => rfl) rfl (by omega) (by decide) (by decide) (fun h hR => ?_)
            refine zz_aload_n C d_Mo_order_149 rfl rfl ?_
            refine zz_dup C d_Mo_order_150 rfl ?_
            refine zz_getV C hR (nI rc) _ d_Mo_order_151 zf_Mo_115 rfl rfl hP.2.1 ?_
            refine zz_iconst (v := 1) C d_Mo_order_154 (by decide) ?_
            refine zz_iadd C d_Mo_order_155 ?_
            refine zz_putI C hR d_Mo_order_156 zp_Mo_115 rfl rfl rfl (Nat.le_of_ble_eq_true rfl) rfl (fun h hR => ?_)
            refine zz_iinc C d_Mo_order_159 rfl rfl (by decide) rfl ?_
            refine zz_iinc C d_Mo_order_162 rfl (nI_inc _) (by decide) rfl ?_
            refine zz_goto (tgt := 37) C d_Mo_order_165 (by decide) ?_
            first | exact ih (a + 1) V μ rc _ h (by omega) hlt hI hP hO hR hF | (have K := ih (a + 1) (aoF V rc a b) (ao_m μ rc a b) (rc + 1) (some (.int (nI b))) h (by omega) hlt (hI.ao c6 hlt hb) (ao_m_P hP c6 (by omega) (by omega)) hO.ao hR hF; rw [ao_1 c6] at K; exact K)
set_option maxRecDepth 100000 in
set_option maxHeartbeats 4000000 in
theorem m_Mo_order (hC : CI n rc sz al c V) (hM : MM n rc sz V pv μ pa) : xMet l y_Mo_order b_Mo_order 4 (zR 2) E [.ref (ad 40)] ad al μ pa (orF n rc V pv).1 (fun m pm => if V 1 9 ≤ 0 then ∃ μF rc', mP n rc' (aosF n n 0 V rc) μF ∧ pI n rc' (aosF n n 0 V rc) ∧ oM μ μF ∧ (if aosF n n 0 V rc 1 9 ≤ 0 then m = μF ∧ pm = pa else m = ftN μF ∧ pm = ptL pa 8) else m = th μ ∧ pm = pa) := by
  have h16 := hC.r16
  have h7 : ∀ q, q < 16 → th μ 50 q = V 7 q := fun q hq => (hM.1.2.2.2 q hq).2.2.1
  have h9 := hC.1.2.2.2.2.2.1
  intro h hR
  refine zMet.of (L := [some (.ref (ad 40)), none, none, none]) (by decide +kernel) (Nat.le_of_ble_eq_true rfl) rfl 3 rfl fun X hl C Z => ?_
  refine zz_aload_n C d_Mo_order_0 rfl rfl ?_
  refine zz_iconst (v := 0) C d_Mo_order_1 (by decide) ?_
  refine zz_putI C hR d_Mo_order_2 zp_Mo_1 rfl rfl rfl (Nat.le_of_ble_eq_true rfl) rfl (fun h hR => ?_)
  have hR : zRep E ad al (th μ) pa h := hR
  refine zz_iconst (v := 0) C d_Mo_order_5 (by decide) ?_
  refine zz_istore_n C d_Mo_order_6 rfl (by decide) rfl ?_
  refine lpA_Mo_order (μ := th μ) (V := V) C Z h16 hM.M h7 hR (fun z => ?_) (fun z => ?_) rc 0 rfl (Nat.zero_le _) (fun q hq => absurd hq (Nat.not_lt_zero _))
  · have z9 : ¬ V 1 9 ≤ 0 := by rw [h9, oc_le h16]; exact z
    exact ⟨by unfold orF; rw [if_neg z9], rfl, th μ, pa, th_fx, by dsimp only; rw [if_neg z9]; exact ⟨rfl, rfl⟩, hR⟩
  · have z9 : V 1 9 ≤ 0 := by rw [h9, oc_le h16]; exact z
    have e9 : V 1 9 = 0 := by
      obtain ⟨m, m1, m2, m3⟩ := oc_nI (f := V 7) rc
      rw [h9, m2, m3.mpr z]; rfl
    have hO : oM μ (th μ) := ⟨fun k h1 _ _ _ _ => va_up_ne _ _ h1, fun i h0 _ => pk_un h0⟩
    have fxo : ∀ m, oM μ m → fx μ pa m pa := fun m g => ⟨fun k hk => g.1 k (by omega) (by omega) (by omega) (by omega) (by omega), rfl⟩
    refine zz_iconst (v := 0) C d_Mo_order_33 (by decide) ?_
    refine zz_istore_n C d_Mo_order_34 rfl (by decide) rfl ?_
    refine zz_iconst (v := 0) C d_Mo_order_35 (by decide) ?_
    refine zz_istore_n C d_Mo_order_36 rfl (by decide) rfl ?_
    have K := fun kx => lp_Mo_order C Z (μ0 := μ) (F := aosF n n 0 V rc) kx n 0 V (th μ) rc none h rfl (Nat.zero_le _) hC.1 (hM.1.sc th_sc) hO hR rfl
    rw [e9] at K
    refine K (fun μF rc' w h hIF hPF hOF hR => ?_)
    refine zz_iload_n C d_Mo_order_168 rfl rfl ?_
    refine zz_if_le (tgt := 176) C d_Mo_order_169 (by decide) (fun c_169 => ?_) (fun c_169 => ?_)
    · refine zz_iload_n C d_Mo_order_176 rfl rfl ?_
      refine zz_iret C Z d_Mo_order_177 ?_
      first | exact ⟨by unfold orF; rw [if_pos z9, if_neg c_169], rfl, ftN μF, ptL pa 8, ftN_fx (fxo _ hOF), by dsimp only; rw [if_pos z9]; exact ⟨μF, rc', hPF, hIF, hOF, by rw [if_neg c_169]; exact ⟨rfl, rfl⟩⟩, hR⟩ | exact ⟨by unfold orF; rw [if_pos z9, if_pos c_169], rfl, μF, pa, fxo _ hOF, by dsimp only; rw [if_pos z9]; exact ⟨μF, rc', hPF, hIF, hOF, by rw [if_pos c_169]; exact ⟨rfl, rfl⟩⟩, hR⟩
    · refine zz_aload_n C d_Mo_order_172 rfl rfl ?_
      refine zz_callVv (e := 0) C hR d_Mo_order_173 mk_Mo_106 zy_Mo_problemTold m_Mo_problemTold ⟨by decide, by decide⟩ ⟨Nat.zero_le _, Nat.zero_le _⟩ rfl rfl rfl rfl (Nat.le_of_ble_eq_true rfl) (fun h hR => ?_)
      refine zz_iload_n C d_Mo_order_176 rfl rfl ?_
      refine zz_iret C Z d_Mo_order_177 ?_
      first | exact ⟨by unfold orF; rw [if_pos z9, if_neg c_169], rfl, ftN μF, ptL pa 8, ftN_fx (fxo _ hOF), by dsimp only; rw [if_pos z9]; exact ⟨μF, rc', hPF, hIF, hOF, by rw [if_neg c_169]; exact ⟨rfl, rfl⟩⟩, hR⟩ | exact ⟨by unfold orF; rw [if_pos z9, if_pos c_169], rfl, μF, pa, fxo _ hOF, by dsimp only; rw [if_pos z9]; exact ⟨μF, rc', hPF, hIF, hOF, by rw [if_pos c_169]; exact ⟨rfl, rfl⟩⟩, hR⟩
theorem s_order (hC : CI n rc sz al c V) (hM : MM n rc sz V pv μ pa) : OK al c V (orF n rc V pv).2.1 pv (orF n rc V pv).2.2 (xMet l y_Mo_order b_Mo_order 4 (zR 2) E [.ref (ad 40)] ad al μ pa (orF n rc V pv).1) := by
  have hW := m_Mo_order (l := l) (E := E) (ad := ad) hC hM
  revert hW
  unfold orF
  by_cases c9 : V 1 9 ≤ 0
  · simp only [if_pos c9]
    obtain ⟨rcF, g1, g2, g3⟩ := aos_inv n 0 V rc (by omega) hC.1
    generalize hF : aosF n n 0 V rc = F at g1 g2 g3
    have hrc : ∀ rc', pI n rc' F → rc' = rcF := fun rc' z => (nI_eq (by have := z.1.2.2.2; omega) (by have := g1.1.2.2.2; omega)).mp (z.1.2.1.symm.trans g1.1.2.1)
    by_cases cF : F 1 9 ≤ 0
    · simp only [if_pos cF]
      rcases g3 with ⟨rfl, rfl⟩ | g3
      · intro hW
        refine ⟨fun _ _ _ => rfl, rfl, n, rcF, sz, hC, hW.imp ?_⟩
        rintro m pm ⟨μF, rc', h1, h2, h3, rfl, rfl⟩
        cases hrc rc' h2
        obtain ⟨m1, m2, m3, m4, m5, m6, m7⟩ := hM
        refine ⟨h1, ⟨by rw [h3.2 14 (by decide) (by decide)]; exact m2.1, by rw [h3.2 15 (by decide) (by decide)]; exact m2.2⟩, ⟨by rw [h3.2 17 (by decide) (by decide)]; exact m3.1, ?_⟩, by rw [h3.2 18 (by decide) (by decide)]; exact m4, ?_, ?_, ?_⟩
        · rw [h3.1 53 (by decide) (by decide) (by decide) (by decide) (by decide), h3.1 54 (by decide) (by decide) (by decide) (by decide) (by decide), h3.1 55 (by decide) (by decide) (by decide) (by decide) (by decide), h3.1 56 (by decide) (by decide) (by decide) (by decide) (by decide), h3.1 57 (by decide) (by decide) (by decide) (by decide) (by decide), h3.1 58 (by decide) (by decide) (by decide) (by decide) (by decide), h3.1 59 (by decide) (by decide) (by decide) (by decide) (by decide), h3.1 60 (by decide) (by decide) (by decide) (by decide) (by decide), h3.1 61 (by decide) (by decide) (by decide) (by decide) (by decide)]
          exact m3.2
        · unfold mK; rw [h3.1 46 (by decide) (by decide) (by decide) (by decide) (by decide), h3.1 51 (by decide) (by decide) (by decide) (by decide) (by decide)]; exact m5
        · unfold mX; rw [h3.1 44 (by decide) (by decide) (by decide) (by decide) (by decide)]; exact m6
        · unfold mV; rw [h3.1 52 (by decide) (by decide) (by decide) (by decide) (by decide)]; exact m7
      · exact absurd cF g3
    · simp only [if_neg cF]
      intro hW
      have gk : ∀ k, ¬ oK k → ftM F k = ftM V k := fun k hk => by
        unfold ftM fgM va_up
        rw [g2 14 (by unfold oK; omega), g2 9 (by unfold oK; omega)]
        by_cases e1 : k = 13
        · rw [if_pos e1, if_pos e1]
          show cpn 8 _ (F 13) = cpn 8 _ (V 13)
          rw [g2 13 (by unfold oK; omega)]
        · rw [if_neg e1, if_neg e1, g2 k hk]
      refine ⟨fun k h1 h2 => ?_, rfl, n, rcF, 0, forget_C g1 ?_ hC.al6 (hC.num' fun k hk => g2 k (by unfold oK; omega)), hW.imp ?_⟩
      · rw [ftM_fr (by omega) (by omega) (by omega)]; exact g2 k (by unfold oK; omega)
      · have := hC.2.1
        unfold kI; rw [g2 23 (by unfold oK; omega), g2 22 (by unfold oK; omega)]; exact this
      · rintro m pm ⟨μF, rc', h1, h2, h3, rfl, rfl⟩
        cases hrc rc' h2
        refine forget_M h1 ?_ ?_
        · rw [h3.2 15 (by decide) (by decide), g2 9 (by unfold oK; omega)]; exact hM.2.1.2
        · have := hM.2.2.2.2.1
          unfold mK
          rw [h3.1 46 (by decide) (by decide) (by decide) (by decide) (by decide), h3.1 51 (by decide) (by decide) (by decide) (by decide) (by decide), g2 23 (by unfold oK; omega), g2 22 (by unfold oK; omega)]; exact this
  · simp only [if_neg c9]
    intro hW
    refine ⟨fun _ _ _ => rfl, rfl, n, rc, sz, hC, hW.imp ?_⟩
    rintro m pm ⟨rfl, rfl⟩
    exact hM.sc th_sc
end MORDER
