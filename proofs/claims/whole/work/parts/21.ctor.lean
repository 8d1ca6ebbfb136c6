/-! BOX(), NODE(int) -/
section CTOR
variable {l : Launch} {E : zE} {ad : Nat → Nat} {h : zH}
set_option maxRecDepth 100000 in
set_option maxHeartbeats 4000000 in
theorem m_Bx_init {kb kl kh : Nat} (Hb : zg h kb = some (.inr (2, [.null, .null]))) (Hl : zg h kl = none) (Hh : zg h kh = none) (n1 : kb ≠ kl) (n2 : kb ≠ kh) (n3 : kl ≠ kh) :
    zMet l y_Bx_init b_Bx_init 1 none { frames := 1, cells := 2, slots := 16, locals := 40 } E [.ref (ad kb)] ad h (fun r ad' h' => r = none ∧ (∀ k, k ≠ kl → k ≠ kh → ad' k = ad k) ∧ zg h' kb = some (.inr (2, [.ref (ad' kl), .ref (ad' kh)])) ∧ zg h' kl = some (.inl (E.2 0, 8, .inl (fun _ => 0))) ∧ zg h' kh = some (.inl (E.2 0, 8, .inl (fun _ => 0))) ∧ ∀ k, k ≠ kb → k ≠ kl → k ≠ kh → zg h' k = zg h k) := by
  refine zMet.ofI (L := [some (.ref (ad kb))]) (by decide +kernel) (Nat.le_of_ble_eq_true rfl) rfl 0 rfl fun X hl I C Z => ?_
  refine zz_aload_n C d_Bx_init_0 rfl rfl ?_
  refine zz_obj C d_Bx_init_1 mk_Bx_3 (by decide) (by decide) ?_
  refine zz_aload_n C d_Bx_init_4 rfl rfl ?_
  refine zz_bipush (v := 8) C d_Bx_init_5 (by decide) ?_
  refine zz_newa C kl (N := 8) d_Bx_init_7 (by decide) (by decide) (by decide) Hl (by decide) (by decide) (fun ad1 h1 g1 e1 f1 => ?_)
  rw [← g1 kb n1]
  refine zz_putF C I d_Bx_init_9 zq_Bx_9 ((f1 kb n1).trans Hb) rfl rfl (by decide) (fun h2 e2 f2 => ?_)
  refine zz_aload_n C d_Bx_init_12 rfl rfl ?_
  refine zz_bipush (v := 8) C d_Bx_init_13 (by decide) ?_
  refine zz_newa C kh (N := 8) d_Bx_init_15 (by decide) (by decide) (by decide) (by rw [f2 kh (Ne.symm n2), f1 kh (Ne.symm n3)]; exact Hh) (by decide) (by decide) (fun ad2 h3 g3 e3 f3 => ?_)
  rw [← g3 kb n2]
  refine zz_putF C I d_Bx_init_17 zq_Bx_15 ((f3 kb n2).trans e2) rfl rfl (Nat.le_of_ble_eq_true rfl) (fun h4 e4 f4 => ?_)
  refine zz_vret C Z d_Bx_init_20 ?_
  refine ⟨rfl, fun k a b => by rw [g3 k b, g1 k a], ?_, ?_, ?_, fun k a b c => by rw [f4 k a, f3 k c, f2 k a, f1 k b]⟩
  · rw [e4, g3 kl n3]; rfl
  · rw [f4 kl (Ne.symm n1), f3 kl n3, f2 kl (Ne.symm n1)]; exact e1
  · rw [f4 kh (Ne.symm n2)]; exact e3
set_option maxRecDepth 100000 in
set_option maxHeartbeats 4000000 in
theorem m_Nd_init {kn kb kl kh : Nat} {x : Int32} (Hn : zg h kn = some (.inr (4, [.int 0, .null, .int 0, .int 0, .int 0, .int 0, .int 0, .int 0, .int 0, .int 0, .int 0, .int 0]))) (Hb : zg h kb = none) (Hl : zg h kl = none) (Hh : zg h kh = none) (n1 : kb ≠ kl) (n2 : kb ≠ kh) (n3 : kl ≠ kh) (n4 : kn ≠ kb) (n5 : kn ≠ kl) (n6 : kn ≠ kh) :
    zMet l y_Nd_init b_Nd_init 2 none { frames := 2, cells := 3, slots := 18, locals := 80 } E [.ref (ad kn), .int x] ad h (fun r ad' h' => r = none ∧ (∀ k, k ≠ kb → k ≠ kl → k ≠ kh → ad' k = ad k) ∧ zg h' kn = some (.inr (4, [.int x, .ref (ad' kb), .int 0, .int 0, .int 0, .int 0, .int 0, .int 0, .int 0, .int 0, .int 0, .int 0])) ∧ zg h' kb = some (.inr (2, [.ref (ad' kl), .ref (ad' kh)])) ∧ zg h' kl = some (.inl (E.2 0, 8, .inl (fun _ => 0))) ∧ zg h' kh = some (.inl (E.2 0, 8, .inl (fun _ => 0))) ∧ ∀ k, k ≠ kn → k ≠ kb → k ≠ kl → k ≠ kh → zg h' k = zg h k) := by
  refine zMet.ofI (L := [some (.ref (ad kn)), some (.int x)]) (by decide +kernel) (Nat.le_of_ble_eq_true rfl) rfl 0 rfl fun X hl I C Z => ?_
  refine zz_aload_n C d_Nd_init_0 rfl rfl ?_
  refine zz_obj C d_Nd_init_1 mk_Nd_3 (by decide) (by decide) ?_
  refine zz_aload_n C d_Nd_init_4 rfl rfl ?_
  refine zz_new C kb (ci := 2) (fs := [.null, .null]) (ty := t_Bx) d_Nd_init_5 ck_Nd_9 in_Bx ii_Bx iw_Bx ty_Bx rfl (fun j hj => by rcases (show j = 0 ∨ j = 1 by omega) with rfl | rfl <;> rfl) Hb (by decide) (by decide) (fun ad1 h1 g1 e1 f1 => ?_)
  rw [← g1 kn n4]
  refine zz_dup C d_Nd_init_8 rfl ?_
  refine zz_callIN C d_Nd_init_9 (host := "BranchTrees") (by decide) zy_Bx_init (m_Bx_init (kl := kl) (kh := kh) e1 (by rw [f1 kl (Ne.symm n1)]; exact Hl) (by rw [f1 kh (Ne.symm n2)]; exact Hh) n1 n2 n3) ⟨by decide, by decide⟩ ⟨by decide, by decide⟩ rfl rfl (Nat.le_of_ble_eq_true rfl) (fun r ad2 h2 q => ?_)
  obtain ⟨rfl, g2, eb, el, eh, f2⟩ := q
  rw [← g2 kn n5 n6, ← g2 kb n1 n2]
  refine zz_putF C I d_Nd_init_12 zq_Nd_12 ((f2 kn n4 n5 n6).trans ((f1 kn n4).trans Hn)) rfl rfl (by decide) (fun h3 e3 f3 => ?_)
  refine zz_aload_n C d_Nd_init_15 rfl rfl ?_
  refine zz_iload_n C d_Nd_init_16 rfl rfl ?_
  refine zz_putF C I d_Nd_init_17 zq_Nd_18 e3 rfl rfl (Nat.le_of_ble_eq_true rfl) (fun h4 e4 f4 => ?_)
  refine zz_vret C Z d_Nd_init_20 ?_
  refine ⟨rfl, fun k a b c => by rw [g2 k b c, g1 k a], ?_, ?_, ?_, ?_, fun k a b c d => by rw [f4 k a, f3 k a, f2 k b c d, f1 k b]⟩
  · rw [e4]; rfl
  · rw [f4 kb (Ne.symm n4), f3 kb (Ne.symm n4)]; exact eb
  · rw [f4 kl (Ne.symm n5), f3 kl (Ne.symm n5)]; exact el
  · rw [f4 kh (Ne.symm n6), f3 kh (Ne.symm n6)]; exact eh
end CTOR
