/-! THE ROOT and A CHILD, both sides -/
theorem cp_lo {μ : Nat → Nat → Int32} {kl kh ka kc i : Nat} (h : kl ≠ kh) : cpF μ kl kh ka kc i kl = cpn i (μ ka) (μ kl) := by
  unfold cpF; rw [va_up_ne _ _ h, va_up_self]
theorem cp_hi {μ : Nat → Nat → Int32} {kl kh ka kc i : Nat} : cpF μ kl kh ka kc i kh = cpn i (μ kc) (μ kh) := by
  unfold cpF; rw [va_up_self]
theorem cpn_lt {i k : Nat} {f g : Nat → Int32} (h : k < i) : cpn i f g k = f k := by unfold cpn; rw [if_pos h]
section GROW
variable {n rc sz al c : Nat} {V μ : Nat → Nat → Int32} {pv pa : Nat → Nat → Int64}
theorem gr_num (hC : CI n rc sz al c V) : grF V al sz (100 + 4 * sz) 0 = nI sz := by
  unfold grF
  split
  · rename_i h
    rw [va_up_ne _ _ (by omega)]; exact hC.num sz h
  · rw [va_up_ne _ _ (by omega), va_up_ne _ _ (by omega), va_up_ne _ _ (by omega), va_up_self]; rfl
theorem nn0_T {mm : Nat → Nat → Int32} {a1 a2 a3 a4 : Int32} (hT : mT n sz V μ) (hs : sc (nn0 μ sz a1 a2 a3 a4) mm) : ∀ j, j < sz → mTj n V mm j := by
  intro j hj
  obtain ⟨u1, u2, u3, u4, u5, u6, u7, u8⟩ := hT.2 j hj
  unfold mTj
  rw [hs.1 53 (by decide) (by decide) (by decide), hs.1 54 (by decide) (by decide) (by decide), hs.1 55 (by decide) (by decide) (by decide), hs.1 56 (by decide) (by decide) (by decide), hs.1 57 (by decide) (by decide) (by decide), hs.1 58 (by decide) (by decide) (by decide), hs.1 59 (by decide) (by decide) (by decide), hs.1 60 (by decide) (by decide) (by decide), hs.1 61 (by decide) (by decide) (by decide)]
  refine ⟨?_, ?_, ?_, ?_, u5, u6, ?_, u8⟩
  · show upd (μ 53) sz _ j = _
    rw [pk_un (by omega)]; exact u1
  · show upd (μ 54) sz _ j = _
    rw [pk_un (by omega)]; exact u2
  · show upd (μ 55) sz _ j = _
    rw [pk_un (by omega)]; exact u3
  · show upd (μ 56) sz _ j = _
    rw [pk_un (by omega)]; exact u4
  · show upd (μ 59) sz _ j = _
    rw [pk_un (by omega)]; exact u7
theorem nn_M {m1 mm : Nat → Nat → Int32} {a1 a2 a3 a4 : Int32} (hC : CI n rc sz al c V) (hM : MM n rc sz V pv μ pa) (h6 : sz < 600) (hs : sc (nn0 μ sz a1 a2 a3 a4) mm) (f1 : ∀ k, (k < 100 + 4 * sz ∨ 100 + 4 * sz + 4 ≤ k) → k ≠ 14 → m1 k = V k) (f2 : m1 14 = upd (V 14) 1 (nI (sz + 1))) (t2 : m1 (100 + 4 * sz) 2 = a1) (t3 : m1 (100 + 4 * sz) 3 = a2) (t4 : m1 (100 + 4 * sz) 4 = a3) (t5 : m1 (100 + 4 * sz) 5 = a4) (hbx : ∀ k, k < n → mm 62 k = m1 (100 + 4 * sz + 2) k ∧ mm 63 k = m1 (100 + 4 * sz + 3) k) : MM n rc (sz + 1) (nsF m1 sz n rc) pv (nnF V mm sz n rc) pa := by
  obtain ⟨q1, q2, q3, q4, q5, q6, q7⟩ := hM
  refine new_M hC h6 f1 f2 ((nn0_P q1).sc hs) ((nn0_B q2).sc hs) ?_ ?_ ?_ ?_ ?_ (nn0_T q3 hs) ?_ ?_ ?_ ?_ ?_ hbx
  · rw [hs.2 17 (by decide) (by decide)]; rfl
  · rw [hs.2 18 (by decide) (by decide)]; exact q4
  · unfold mK; rw [hs.1 46 (by decide) (by decide) (by decide), hs.1 51 (by decide) (by decide) (by decide)]; exact q5
  · unfold mX; rw [hs.1 44 (by decide) (by decide) (by decide)]; exact q6
  · unfold mV; rw [hs.1 52 (by decide) (by decide) (by decide)]; exact q7
  · rw [hs.1 53 (by decide) (by decide) (by decide), t2]; exact pk_us
  · rw [hs.1 54 (by decide) (by decide) (by decide), t3]; exact pk_us
  · rw [hs.1 55 (by decide) (by decide) (by decide), t4]; exact pk_us
  · rw [hs.1 56 (by decide) (by decide) (by decide), t5]; exact pk_us
  · rw [hs.1 59 (by decide) (by decide) (by decide)]; exact pk_us
theorem root_ok (hC : CI n rc 0 al c V) (hM : MM n rc 0 V pv μ pa) : CI n rc 1 (grA al 0) c (prtF V al n rc) ∧ MM n rc 1 (prtF V al n rc) pv (nnF V (nnR μ 0 n) 0 n rc) pa ∧ bdR n (nnR μ 0 n 62) (nnR μ 0 n 63) := by
  have h8 := hC.n8
  have f1 : ∀ k, (k < 100 + 4 * 0 ∨ 100 + 4 * 0 + 4 ≤ k) → k ≠ 14 → rtF (grF V al 0) 0 k = V k := fun k h1 h2 => by rw [rtF_fr h1, grF_fr h2 h1]
  have f2 : rtF (grF V al 0) 0 14 = upd (V 14) 1 (nI (0 + 1)) := by rw [rtF_fr (by omega), grF_14]
  have n0 : rtF (grF V al 0) 0 (100 + 4 * 0) = upd (upd (upd (upd (upd (grF V al 0 (100 + 4 * 0)) 2 (-1)) 3 (-1)) 4 0) 5 0) 6 0 := by
    unfold rtF; rw [cpF_fr (by omega) (by omega), va_up_self]
  have lo : ∀ k, k < n → rtF (grF V al 0) 0 (100 + 4 * 0 + 2) k = V 2 k := fun k hk => by
    unfold rtF; rw [cp_lo (by omega), cpn_lt (by omega), va_up_ne _ _ (by omega), grF_fr (by omega) (by omega)]
  have hi : ∀ k, k < n → rtF (grF V al 0) 0 (100 + 4 * 0 + 3) k = V 3 k := fun k hk => by
    unfold rtF; rw [cp_hi, cpn_lt (by omega), va_up_ne _ _ (by omega), grF_fr (by omega) (by omega)]
  have bd : bdR n (V 2) (V 3) := fun k hk => hC.1.2.1 k (by omega)
  have bd1 : bdR n (rtF (grF V al 0) 0 (100 + 4 * 0 + 2)) (rtF (grF V al 0) 0 (100 + 4 * 0 + 3)) := fun k hk => by rw [lo k hk, hi k hk]; exact bd k hk
  have mlo : ∀ k, k < n → nnR μ 0 n 62 k = V 2 k := fun k hk => (cpn_lt hk).trans (hM.1.2.2.1 k (by omega)).1
  have mhi : ∀ k, k < n → nnR μ 0 n 63 k = V 3 k := fun k hk => (cpn_lt hk).trans (hM.1.2.2.1 k (by omega)).2.1
  have hs : sc (nn0 μ 0 (-1) (-1) 0 0) (nnR μ 0 n) := tbF_sc
  refine ⟨?_, ?_, fun k hk => by rw [mlo k hk, mhi k hk]; exact bd k hk⟩
  · refine new_C hC (by decide) f1 f2 ?_ bd1 (Or.inl ⟨rfl, ?_, ?_, ?_, fun k hk => ?_⟩)
    · rw [n0]; exact gr_num hC
    · rw [n0]; rfl
    · rw [n0]; rfl
    · rw [n0]; rfl
    · rw [lo k hk, hi k hk, f1 2 (by omega) (by omega), f1 3 (by omega) (by omega)]; exact ⟨Int.le_refl _, Int.le_refl _⟩
  · refine nn_M hC hM (by decide) hs f1 f2 ?_ ?_ ?_ ?_ (fun k hk => ⟨by rw [mlo k hk, lo k hk], by rw [mhi k hk, hi k hk]⟩)
    · rw [n0]; rfl
    · rw [n0]; rfl
    · rw [n0]; rfl
    · rw [n0]; rfl
theorem kd_ok {p a : Nat} {sd v : Int32} (hC : CI n rc sz al c V) (hM : MM n rc sz V pv μ pa) (h6 : sz < 600) (hp : p < sz) (ha : a < n) (c0 : sd = 0 → (V (100 + 4 * p + 2) a).toInt ≤ v.toInt) (c1 : ¬ sd = 0 → v.toInt ≤ (V (100 + 4 * p + 3) a).toInt) : CI n rc (sz + 1) (grA al sz) c (nsF (bcF (grF V al sz) sz p a sd v) sz n rc) ∧ MM n rc (sz + 1) (nsF (bcF (grF V al sz) sz p a sd v) sz n rc) pv (nnF V (nnC μ sz n p a sd v) sz n rc) pa ∧ bdR n (nnC μ sz n p a sd v 62) (nnC μ sz n p a sd v 63) := by
  have h8 := hC.n8
  have hal := hC.szal
  have gp : ∀ q, grF V al sz (100 + 4 * p + q) = V (100 + 4 * p + q) ∨ 4 ≤ q := fun q => by
    by_cases h : 4 ≤ q
    · exact Or.inr h
    · exact Or.inl (grF_fr (by omega) (by omega))
  have gp0 : grF V al sz (100 + 4 * p) = V (100 + 4 * p) := grF_fr (by omega) (by omega)
  have gp2 : grF V al sz (100 + 4 * p + 2) = V (100 + 4 * p + 2) := grF_fr (by omega) (by omega)
  have gp3 : grF V al sz (100 + 4 * p + 3) = V (100 + 4 * p + 3) := grF_fr (by omega) (by omega)
  have f1 : ∀ k, (k < 100 + 4 * sz ∨ 100 + 4 * sz + 4 ≤ k) → k ≠ 14 → bcF (grF V al sz) sz p a sd v k = V k := fun k h1 h2 => by rw [bcF_fr h1, grF_fr h2 h1]
  have f2 : bcF (grF V al sz) sz p a sd v 14 = upd (V 14) 1 (nI (sz + 1)) := by rw [bcF_fr (by omega), grF_14]
  have n0 : bcF (grF V al sz) sz p a sd v (100 + 4 * sz) = upd (upd (upd (upd (upd (grF V al sz (100 + 4 * sz)) 2 (nI p)) 3 (nI a)) 4 sd) 5 v) 6 (V (100 + 4 * p) 6 + 1) := by
    unfold bcF
    rw [cutF_fr (by omega) (by omega), cpF_fr (by omega) (by omega)]
    unfold chF
    rw [va_up_self, gp0, hC.num p (by omega)]
  have lo : ∀ k, k < n → bcF (grF V al sz) sz p a sd v (100 + 4 * sz + 2) k = ctL (V (100 + 4 * p + 2)) a sd v k := fun k hk => by
    unfold bcF
    rw [cut_lo (by omega), cp_lo (by omega)]
    refine (ct_eq (n := n) (hi := V 0) (hi' := V 0) ha (fun k hk => ⟨?_, rfl⟩) k hk).1
    rw [cpn_lt (by omega)]
    unfold chF
    rw [va_up_ne _ _ (by omega), gp2]
  have hi : ∀ k, k < n → bcF (grF V al sz) sz p a sd v (100 + 4 * sz + 3) k = ctH (V (100 + 4 * p + 3)) a sd v k := fun k hk => by
    unfold bcF
    rw [cut_hi (by omega), cp_hi]
    refine (ct_eq (n := n) (lo := V 0) (lo' := V 0) ha (fun k hk => ⟨rfl, ?_⟩) k hk).2
    rw [cpn_lt (by omega)]
    unfold chF
    rw [va_up_ne _ _ (by omega), gp3]
  have bdp : bdR n (V (100 + 4 * p + 2)) (V (100 + 4 * p + 3)) := (hC.tB p hp).1
  have bdc : bdR n (ctL (V (100 + 4 * p + 2)) a sd v) (ctH (V (100 + 4 * p + 3)) a sd v) := ct_bd bdp c0 c1
  have bd1 : bdR n (bcF (grF V al sz) sz p a sd v (100 + 4 * sz + 2)) (bcF (grF V al sz) sz p a sd v (100 + 4 * sz + 3)) := fun k hk => by rw [lo k hk, hi k hk]; exact bdc k hk
  have hTp := (hM.2.2.1.2 p hp).2.2.2.2.2.2.2
  have mb : ∀ k, k < n → nnC μ sz n p a sd v 62 k = ctL (V (100 + 4 * p + 2)) a sd v k ∧ nnC μ sz n p a sd v 63 k = ctH (V (100 + 4 * p + 3)) a sd v k := by
    intro k hk
    unfold nnC
    rw [cut_lo (by decide), cut_hi (by decide)]
    refine ct_eq (n := n) ha (fun k hk => ⟨?_, ?_⟩) k hk
    · exact (cpn_lt (f := fun k => μ 60 (8 * p + k)) hk).trans (hTp k hk).1
    · exact (cpn_lt (f := fun k => μ 61 (8 * p + k)) hk).trans (hTp k hk).2
  have hs : sc (nn0 μ sz (nI p) (nI a) sd v) (nnC μ sz n p a sd v) := tbF_sc.tr cutF_sc
  obtain ⟨s1, s2, s3⟩ := ct_sub (lo := V (100 + 4 * p + 2)) (hi := V (100 + 4 * p + 3)) (a := a) (sd := sd) (v := v)
  refine ⟨?_, ?_, fun k hk => by rw [(mb k hk).1, (mb k hk).2]; exact bdc k hk⟩
  · refine new_C hC h6 f1 f2 ?_ bd1 (Or.inr ⟨p, a, hp, ha, ?_, ?_, ?_, fun k hk => ?_, ?_, ?_⟩)
    · rw [n0]; exact gr_num hC
    · rw [n0]; rfl
    · rw [n0]; rfl
    · rw [n0, f1 (100 + 4 * p) (by omega) (by omega)]; rfl
    · rw [lo k hk, hi k hk, f1 (100 + 4 * p + 2) (by omega) (by omega), f1 (100 + 4 * p + 3) (by omega) (by omega)]; exact s1 k
    · rw [n0, hi a ha]; exact s2
    · rw [n0, lo a ha]; exact s3
  · refine nn_M hC hM h6 hs f1 f2 ?_ ?_ ?_ ?_ (fun k hk => ⟨by rw [(mb k hk).1, lo k hk], by rw [(mb k hk).2, hi k hk]⟩)
    · rw [n0]; rfl
    · rw [n0]; rfl
    · rw [n0]; rfl
    · rw [n0]; rfl
/-- the node's state and what parted it are free -/
theorem CI.nd {p : Nat} {x y : Int32} (hC : CI n rc sz al c V) : CI n rc sz al c (va_up V (100 + 4 * p) (upd (upd (V (100 + 4 * p)) 7 x) 10 y)) := by
  have e : ∀ k, k ≠ 100 + 4 * p → va_up V (100 + 4 * p) (upd (upd (V (100 + 4 * p)) 7 x) 10 y) k = V k := fun k hk => va_up_ne _ _ hk
  have ei : ∀ k i, i ≠ 7 → i ≠ 10 → va_up V (100 + 4 * p) (upd (upd (V (100 + 4 * p)) 7 x) 10 y) k i = V k i := fun k i h7 h10 => by
    by_cases hk : k = 100 + 4 * p
    · subst hk; rw [va_up_self, pk_un h10, pk_un h7]
    · rw [e k hk]
  obtain ⟨h1, h2, h3, h4, h5⟩ := hC
  obtain ⟨t1, t2, t3, t4, t5, t6⟩ := h5
  refine ⟨h1.fr fun k hk => e k (by omega), h2.fr (e 22 (by omega)) (e 23 (by omega)), h3.fr (e 9 (by omega)), h4.fr (e 13 (by omega)), by rw [e 14 (by omega)]; exact t1, t2, t3, fun j hj => by rw [ei _ 0 (by decide) (by decide)]; exact t4 j hj, fun j hj => ?_, fun j hj => ?_⟩
  · rw [ei _ 8 (by decide) (by decide), e (100 + 4 * j + 2) (by omega), e (100 + 4 * j + 3) (by omega), e 4 (by omega)]
    exact t5 j hj
  · refine (t6 j hj).fr' (e 2 (by omega)) (e 3 (by omega)) (fun k h1 h2 i hi => ?_)
    by_cases hk : k = 100 + 4 * p
    · exact ei k i (by omega) (by omega)
    · rw [e k hk]
theorem MM.nd {p : Nat} {x y : Int32} (hM : MM n rc sz V pv μ pa) : MM n rc sz (va_up V (100 + 4 * p) (upd (upd (V (100 + 4 * p)) 7 x) 10 y)) pv (va_up (va_up μ 57 (upd (μ 57) p x)) 59 (upd (μ 59) p y)) pa := by
  have e : ∀ k, k ≠ 100 + 4 * p → va_up V (100 + 4 * p) (upd (upd (V (100 + 4 * p)) 7 x) 10 y) k = V k := fun k hk => va_up_ne _ _ hk
  have ei : ∀ k i, i ≠ 7 → i ≠ 10 → va_up V (100 + 4 * p) (upd (upd (V (100 + 4 * p)) 7 x) 10 y) k i = V k i := fun k i h7 h10 => by
    by_cases hk : k = 100 + 4 * p
    · subst hk; rw [va_up_self, pk_un h10, pk_un h7]
    · rw [e k hk]
  obtain ⟨q1, q2, q3, q4, q5, q6, q7⟩ := hM
  refine ⟨mP.fr (μ := va_up (va_up μ 57 (upd (μ 57) p x)) 59 (upd (μ 59) p y)) q1 fun k hk => e k (by omega), ?_, ⟨q3.1, fun j hj => ?_⟩, ?_, ?_, ?_, ?_⟩
  · unfold mBst; rw [e 9 (by omega)]; exact q2
  · obtain ⟨u1, u2, u3, u4, u5, u6, u7, u8⟩ := q3.2 j hj
    rw [ei _ 2 (by decide) (by decide), ei _ 3 (by decide) (by decide), ei _ 4 (by decide) (by decide), ei _ 5 (by decide) (by decide), ei _ 9 (by decide) (by decide), e (100 + 4 * j + 2) (by omega), e (100 + 4 * j + 3) (by omega)]
    refine ⟨u1, u2, u3, u4, ?_, u6, ?_, u8⟩
    · show upd (μ 57) p x j = _
      by_cases hj : j = p
      · subst hj; rw [va_up_self, pk_us, pk_un (by decide), pk_us]
      · rw [pk_un hj, e _ (by omega)]; exact u5
    · show upd (μ 59) p y j = _
      by_cases hj : j = p
      · subst hj; rw [va_up_self, pk_us, pk_us]
      · rw [pk_un hj, e _ (by omega)]; exact u7
  · rw [e 14 (by omega)]; exact q4
  · unfold mK; rw [e 22 (by omega), e 23 (by omega)]; exact q5
  · unfold mX; rw [e 13 (by omega)]; exact q6
  · unfold mV; rw [e 9 (by omega), e 10 (by omega)]; exact q7
end GROW
