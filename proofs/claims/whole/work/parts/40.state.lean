/-! THE STATE OF BOTH -/
def ocF (f : Nat → Int32) : Nat → Int32
  | 0 => 0
  | r + 1 => if f r = 0 then ocF f r else ocF f r + 1
def pI (n rc : Nat) (V : Nat → Nat → Int32) : Prop := (V 1 7 = nI n ∧ V 1 8 = nI rc ∧ n ≤ 8 ∧ rc ≤ 16) ∧ bdR 8 (V 2) (V 3) ∧ fcR 8 (V 4) ∧ (∀ r, r < 16 → fcR 8 (V (24 + r)) ∧ (-1000 ≤ (V 6 r).toInt ∧ (V 6 r).toInt ≤ 1000) ∧ (V 5 r = 0 ∨ V 5 r = 1 ∨ V 5 r = 2)) ∧ (∀ r, rc ≤ r → r < 16 → V 7 r = 0) ∧ V 1 9 = ocF (V 7) rc ∧ ∀ r k, r < 16 → n ≤ k → k < 8 → V (24 + r) k = 0
def kI (V : Nat → Nat → Int32) : Prop := (∀ k, k < 8 → -50 ≤ (V 23 k).toInt ∧ (V 23 k).toInt ≤ 50) ∧ rl3 (V 22 1) ∧ (V 22 2 = 0 ∨ V 22 2 = 1)
def bI (V : Nat → Nat → Int32) : Prop := ¬ V 9 1 = 0 → -8000 ≤ (V 9 2).toInt ∧ (V 9 2).toInt ≤ 8000
def xI (c : Nat) (V : Nat → Nat → Int32) : Prop := ∀ k, k < 8 → 0 ≤ (V 13 k).toInt ∧ (V 13 k).toInt ≤ 2 * c
/-- a node is cut from one before it -/
def tv (n : Nat) (V : Nat → Nat → Int32) (j : Nat) : Prop :=
  (j = 0 ∧ V (100 + 4 * j) 2 = -1 ∧ V (100 + 4 * j) 3 = -1 ∧ V (100 + 4 * j) 6 = 0 ∧ ∀ k, k < n → (V 2 k).toInt ≤ (V (100 + 4 * j + 2) k).toInt ∧ (V (100 + 4 * j + 3) k).toInt ≤ (V 3 k).toInt) ∨
  ∃ p a, p < j ∧ a < n ∧ V (100 + 4 * j) 2 = nI p ∧ V (100 + 4 * j) 3 = nI a ∧ V (100 + 4 * j) 6 = V (100 + 4 * p) 6 + 1 ∧ (∀ k, k < n → (V (100 + 4 * p + 2) k).toInt ≤ (V (100 + 4 * j + 2) k).toInt ∧ (V (100 + 4 * j + 3) k).toInt ≤ (V (100 + 4 * p + 3) k).toInt) ∧ (V (100 + 4 * j) 4 = 0 → (V (100 + 4 * j + 3) a).toInt ≤ (V (100 + 4 * j) 5).toInt) ∧ (¬ V (100 + 4 * j) 4 = 0 → (V (100 + 4 * j) 5).toInt ≤ (V (100 + 4 * j + 2) a).toInt)
def tI (n sz al : Nat) (V : Nat → Nat → Int32) : Prop := V 14 1 = nI sz ∧ sz ≤ al ∧ al ≤ 600 ∧ (∀ j, j < al → V (100 + 4 * j) 0 = nI j) ∧ tB n sz V ∧ ∀ j, j < sz → tv n V j
def CI (n rc sz al c : Nat) (V : Nat → Nat → Int32) : Prop := pI n rc V ∧ kI V ∧ bI V ∧ xI c V ∧ tI n sz al V
def mK (V μ : Nat → Nat → Int32) : Prop := (∀ k, k < 8 → μ 46 k = V 23 k) ∧ ∀ i, i < 3 → μ 51 i = V 22 i
def mX (V : Nat → Nat → Int32) (pv : Nat → Nat → Int64) (μ : Nat → Nat → Int32) (pa : Nat → Nat → Int64) : Prop := ∀ k, k < 8 → pa 43 k = pv 12 k ∧ μ 44 k = V 13 k
def mV (n : Nat) (V μ : Nat → Nat → Int32) : Prop := ¬ V 9 1 = 0 → ∀ k, k < n → μ 52 k = V 10 k
def MM (n rc sz : Nat) (V : Nat → Nat → Int32) (pv : Nat → Nat → Int64) (μ : Nat → Nat → Int32) (pa : Nat → Nat → Int64) : Prop := mP n rc V μ ∧ mBst V μ ∧ mT n sz V μ ∧ μ 40 18 = V 14 2 ∧ mK V μ ∧ mX V pv μ pa ∧ mV n V μ
/-- the class's rows stand -/
def fx (μ : Nat → Nat → Int32) (pa : Nat → Nat → Int64) (m : Nat → Nat → Int32) (pm : Nat → Nat → Int64) : Prop := (∀ k, k < 40 ∨ 64 ≤ k → m k = μ k) ∧ pm 12 = pa 12
theorem fx.rf {μ : Nat → Nat → Int32} {pa : Nat → Nat → Int64} : fx μ pa μ pa := ⟨fun _ _ => rfl, rfl⟩
theorem fx.tr {μ m q : Nat → Nat → Int32} {pa pm pq : Nat → Nat → Int64} (h : fx μ pa m pm) (g : fx m pm q pq) : fx μ pa q pq := ⟨fun k hk => (g.1 k hk).trans (h.1 k hk), g.2.trans h.2⟩
theorem fx.up {μ m : Nat → Nat → Int32} {pa pm : Nat → Nat → Int64} {k : Nat} {row : Nat → Int32} (h : fx μ pa m pm) (hk : 40 ≤ k ∧ k < 64) : fx μ pa (va_up m k row) pm := ⟨fun i hi => by rw [va_up_ne _ _ (by omega)]; exact h.1 i hi, h.2⟩
theorem fx.upL {μ m : Nat → Nat → Int32} {pa pm : Nat → Nat → Int64} {row : Nat → Int64} (h : fx μ pa m pm) : fx μ pa m (va_up pm 43 row) := ⟨h.1, h.2⟩
theorem fx.sc {μ m : Nat → Nat → Int32} {pa : Nat → Nat → Int64} (g : sc μ m) : fx μ pa m pa := ⟨fun k hk => g.1 k (by omega) (by omega) (by omega), rfl⟩
theorem zMet.weak {l : Launch} {y : MethodName} {b : ByteArray} {nL : Nat} {ret : Option FieldType} {rm : Room} {E : zE} {av : List Value} {ad : Nat → Nat} {h : zH} {post post' : Option Value → (Nat → Nat) → zH → Prop} (hM : zMet l y b nL ret rm E av ad h post) (hq : ∀ r a g, post r a g → post' r a g) : zMet l y b nL ret rm E av ad h post' := by
  intro sz p e ha hc hk s m args below hf happ hP hK
  obtain ⟨n, o, h1, h2, h3, ⟨⟨⟨r, ad', h', a1, a2, a3, a4⟩, a5⟩, h5⟩⟩ := hM sz p e ha hc hk s m args below hf happ hP hK
  exact ⟨n, o, h1, h2, h3, ⟨⟨r, ad', h', a1, hq _ _ _ a2, a3, a4⟩, a5⟩, h5⟩
/-- a call of the model: its answer, and what holds of its rows behind it -/
def xMet (l : Launch) (y : MethodName) (b : ByteArray) (nL : Nat) (rm : Room) (E : zE) (av : List Value) (ad : Nat → Nat) (al : Nat) (μ : Nat → Nat → Int32) (pa : Nat → Nat → Int64) (r : Int32) (Q : (Nat → Nat → Int32) → (Nat → Nat → Int64) → Prop) : Prop :=
  ∀ h : zH, zRep E ad al μ pa h → zMet l y b nL (some .int) rm E av ad h (fun r' ad' h' => r' = some (.int r) ∧ ad' = ad ∧ ∃ m pm, fx μ pa m pm ∧ Q m pm ∧ zRep E ad al m pm h')
theorem xMet.w {l : Launch} {y : MethodName} {b : ByteArray} {nL : Nat} {rm : Room} {E : zE} {av : List Value} {ad : Nat → Nat} {al : Nat} {μ μ' : Nat → Nat → Int32} {pa pa' : Nat → Nat → Int64} {r r' : Int32} {Q : (Nat → Nat → Int32) → (Nat → Nat → Int64) → Prop} (h : wMet l y b nL (some .int) rm E av ad al μ pa (some (.int r)) μ' pa') (e : r = r') (hf : fx μ pa μ' pa') (hq : Q μ' pa') : xMet l y b nL rm E av ad al μ pa r' Q :=
  fun hh hR => zMet.weak (h hh hR) fun _ _ _ ⟨a, b, c⟩ => ⟨by rw [a, e], b, μ', pa', hf, hq, c⟩
theorem xMet.s {l : Launch} {y : MethodName} {b : ByteArray} {nL : Nat} {rm : Room} {E : zE} {av : List Value} {ad : Nat → Nat} {al : Nat} {μ μ' : Nat → Nat → Int32} {pa : Nat → Nat → Int64} {r r' : Int32} {Q : (Nat → Nat → Int32) → (Nat → Nat → Int64) → Prop} (h : sMet l y b nL (some .int) rm E av ad al μ pa (some (.int r)) μ' pa) (e : r = r') (hf : fx μ pa μ' pa) (hq : ∀ m, sc μ' m → Q m pa) : xMet l y b nL rm E av ad al μ pa r' Q :=
  fun hh hR => zMet.weak (h hh hR) fun _ _ _ ⟨a, b, m, g, c⟩ => ⟨by rw [a, e], b, m, pa, hf.tr (fx.sc g), hq m g, c⟩
theorem MM.sc {n rc sz : Nat} {V μ m : Nat → Nat → Int32} {pv pa : Nat → Nat → Int64} (h : MM n rc sz V pv μ pa) (g : sc μ m) : MM n rc sz V pv m pa := by
  obtain ⟨h1, h2, h3, h4, h5, h6, h7⟩ := h
  refine ⟨h1.sc g, h2.sc g, h3.sc g, ?_, ?_, ?_, ?_⟩
  · rw [g.2 18 (by decide) (by decide)]; exact h4
  · unfold mK; rw [g.1 46 (by decide) (by decide) (by decide), g.1 51 (by decide) (by decide) (by decide)]; exact h5
  · unfold mX; rw [g.1 44 (by decide) (by decide) (by decide)]; exact h6
  · unfold mV; rw [g.1 52 (by decide) (by decide) (by decide)]; exact h7
theorem th_sc {μ : Nat → Nat → Int32} : sc μ (th μ) := ⟨fun k a _ _ => va_up_ne _ _ a, fun i a _ => pk_un a⟩
/-- what holds of the rows of the problem while the search is forgotten -/
theorem CI.vR {n rc sz al c : Nat} {V : Nat → Nat → Int32} (h : CI n rc sz al c V) : vR n rc V := by
  obtain ⟨⟨⟨-, -, h8, h16⟩, -, hc, hr, -, -, -⟩, -, hb, -, -⟩ := h
  refine ⟨h8, h16, fun r hr' => ⟨fun k hk => (hr r (by omega)).1 k (by omega), (hr r (by omega)).2.1⟩, fun k hk => hc k (by omega), hb⟩
theorem CI.sR {n rc sz al c : Nat} {V : Nat → Nat → Int32} (h : CI n rc sz al c V) : sR rc V := by
  obtain ⟨⟨⟨-, -, h8, h16⟩, -, hc, hr, -, -, -⟩, -, hb, -, -⟩ := h
  exact fun r hr' => (hr r (by omega)).2.2
theorem CI.n8 {n rc sz al c : Nat} {V : Nat → Nat → Int32} (h : CI n rc sz al c V) : n ≤ 8 := h.1.1.2.2.1
theorem CI.r16 {n rc sz al c : Nat} {V : Nat → Nat → Int32} (h : CI n rc sz al c V) : rc ≤ 16 := h.1.1.2.2.2
theorem CI.N {n rc sz al c : Nat} {V : Nat → Nat → Int32} (h : CI n rc sz al c V) : V 1 7 = nI n := h.1.1.1
theorem CI.M {n rc sz al c : Nat} {V : Nat → Nat → Int32} (h : CI n rc sz al c V) : V 1 8 = nI rc := h.1.1.2.1
theorem CI.S {n rc sz al c : Nat} {V : Nat → Nat → Int32} (h : CI n rc sz al c V) : V 14 1 = nI sz := h.2.2.2.2.1
theorem CI.szal {n rc sz al c : Nat} {V : Nat → Nat → Int32} (h : CI n rc sz al c V) : sz ≤ al := h.2.2.2.2.2.1
theorem CI.al6 {n rc sz al c : Nat} {V : Nat → Nat → Int32} (h : CI n rc sz al c V) : al ≤ 600 := h.2.2.2.2.2.2.1
theorem CI.sz6 {n rc sz al c : Nat} {V : Nat → Nat → Int32} (h : CI n rc sz al c V) : sz ≤ 600 := Nat.le_trans h.szal h.al6
theorem CI.num {n rc sz al c : Nat} {V : Nat → Nat → Int32} (h : CI n rc sz al c V) : ∀ j, j < al → V (100 + 4 * j) 0 = nI j := h.2.2.2.2.2.2.2.1
theorem CI.tB {n rc sz al c : Nat} {V : Nat → Nat → Int32} (h : CI n rc sz al c V) : tB n sz V := h.2.2.2.2.2.2.2.2.1
theorem CI.tv {n rc sz al c : Nat} {V : Nat → Nat → Int32} (h : CI n rc sz al c V) : ∀ j, j < sz → tv n V j := h.2.2.2.2.2.2.2.2.2
theorem CI.fc {n rc sz al c : Nat} {V : Nat → Nat → Int32} (h : CI n rc sz al c V) : fcR n (V 4) := fun k hk => h.1.2.2.1 k (by have := h.n8; omega)
theorem MM.N {n rc sz : Nat} {V μ : Nat → Nat → Int32} {pv pa : Nat → Nat → Int64} (h : MM n rc sz V pv μ pa) : μ 40 1 = nI n := h.1.1
theorem MM.M {n rc sz : Nat} {V μ : Nat → Nat → Int32} {pv pa : Nat → Nat → Int64} (h : MM n rc sz V pv μ pa) : μ 40 8 = nI rc := h.1.2.1
theorem MM.S {n rc sz : Nat} {V μ : Nat → Nat → Int32} {pv pa : Nat → Nat → Int64} (h : MM n rc sz V pv μ pa) : μ 40 17 = nI sz := h.2.2.1.1
theorem CI.mono {n rc sz al c d : Nat} {V : Nat → Nat → Int32} (h : CI n rc sz al c V) (hd : c ≤ d) : CI n rc sz al d V := ⟨h.1, h.2.1, h.2.2.1, fun k hk => ⟨(h.2.2.2.1 k hk).1, by have := (h.2.2.2.1 k hk).2; omega⟩, h.2.2.2.2⟩
/-- the search is forgotten on both sides -/
theorem ftM_fr {V : Nat → Nat → Int32} {k : Nat} (h1 : k ≠ 14) (h2 : k ≠ 9) (h3 : k ≠ 13) : ftM V k = V k := by
  unfold ftM fgM; rw [va_up_ne _ _ h3, va_up_ne _ _ h2, va_up_ne _ _ h1]
theorem pI.fr {n rc : Nat} {V W : Nat → Nat → Int32} (h : pI n rc V) (e : ∀ k, k < 8 ∨ (24 ≤ k ∧ k < 40) → W k = V k) : pI n rc W := by
  obtain ⟨h1, h2, h3, h4, h5, h6, h7⟩ := h
  unfold pI
  rw [e 1 (by omega), e 2 (by omega), e 3 (by omega), e 4 (by omega), e 5 (by omega), e 6 (by omega), e 7 (by omega)]
  exact ⟨h1, h2, h3, fun r hr => by rw [e (24 + r) (by omega)]; exact h4 r hr, h5, h6, fun r k hr => by rw [e (24 + r) (by omega)]; exact h7 r k hr⟩
theorem mP.fr {n rc : Nat} {V W μ : Nat → Nat → Int32} (h : mP n rc V μ) (e : ∀ k, k < 8 ∨ (24 ≤ k ∧ k < 40) → W k = V k) : mP n rc W μ := by
  obtain ⟨h1, h2, h3, h4⟩ := h
  unfold mP
  rw [e 2 (by omega), e 3 (by omega), e 4 (by omega), e 5 (by omega), e 6 (by omega), e 7 (by omega)]
  exact ⟨h1, h2, h3, fun r hr => ⟨(h4 r hr).1, (h4 r hr).2.1, (h4 r hr).2.2.1, fun k hk => by rw [e (24 + r) (by omega)]; exact (h4 r hr).2.2.2 k hk⟩⟩
theorem forget_C {n rc al c : Nat} {V : Nat → Nat → Int32} (h : pI n rc V) (hk : kI V) (hal : al ≤ 600) (hn : ∀ j, j < al → V (100 + 4 * j) 0 = nI j) : CI n rc 0 al c (ftM V) := by
  refine ⟨h.fr fun k hk => ftM_fr (by omega) (by omega) (by omega), hk, fun q => absurd rfl q, ?_, rfl, Nat.zero_le _, hal, fun j hj => ?_, fun j hj => absurd hj (Nat.not_lt_zero _), fun j hj => absurd hj (Nat.not_lt_zero _)⟩
  · intro k hk
    have e : ftM V 13 k = 0 := by
      show cpn 8 (fun _ => (0 : Int32)) _ k = 0
      unfold cpn; rw [if_pos hk]
    rw [e, i0]; omega
  · rw [ftM_fr (by omega) (by omega) (by omega)]; exact hn j hj
theorem forget_M {n rc : Nat} {V μ : Nat → Nat → Int32} {pv pa : Nat → Nat → Int64} (h : mP n rc V μ) (hb : μ 40 15 = V 9 2) (hk : mK V μ) : MM n rc 0 (ftM V) (fgP pv 8) (ftN μ) (ptL pa 8) := by
  have h' : mP n rc (ftM V) μ := h.fr fun k hk => ftM_fr (by omega) (by omega) (by omega)
  refine ⟨h', ⟨rfl, hb⟩, ⟨rfl, fun j hj => absurd hj (Nat.not_lt_zero _)⟩, rfl, hk, ?_, fun q => absurd rfl q⟩
  intro k hk
  constructor
  · show cpn 8 (fun _ => (0 : Int64)) _ k = cpn 8 (fun _ => (0 : Int64)) _ k
    unfold cpn; rw [if_pos hk, if_pos hk]
  · show cpn 8 (fun _ => (0 : Int32)) _ k = cpn 8 (fun _ => (0 : Int32)) _ k
    unfold cpn; rw [if_pos hk, if_pos hk]
theorem ftN_fx {μ m : Nat → Nat → Int32} {pa pm : Nat → Nat → Int64} (h : fx μ pa m pm) : fx μ pa (ftN m) (ptL pm 8) := by
  unfold ftN ptR ptA0 ptL
  exact fx.upL ((h.up ⟨by decide, by decide⟩).up ⟨by decide, by decide⟩)
theorem th_fx {μ : Nat → Nat → Int32} {pa : Nat → Nat → Int64} : fx μ pa (th μ) pa := fx.rf.up ⟨by decide, by decide⟩
theorem upd_i {f : Nat → Int32} {P : Int32 → Prop} {a : Nat} {x : Int32} (h : ∀ k, k < 8 → P (f k)) (hx : P x) : ∀ k, k < 8 → P (upd f a x k) := by
  intro k hk
  by_cases e : k = a
  · subst e; rw [pk_us]; exact hx
  · rw [pk_un e]; exact h k hk
theorem inW_ok {x : Int32} {L : Nat} (hL : L ≤ 1000000) (h : ¬ inW x (nI L) = 0) : -(L : Int) ≤ x.toInt ∧ x.toInt ≤ L := by
  unfold inW at h
  have e1 : (nI L).toInt = L := nI_toInt (by omega)
  have e2 : (-(nI L)).toInt = -(L : Int) := by rw [tI_neg (by omega), e1]
  by_cases c1 : x < -(nI L)
  · rw [if_pos c1] at h; exact absurd rfl h
  · rw [if_neg c1] at h
    by_cases c2 : nI L < x
    · rw [if_pos c2] at h; exact absurd rfl h
    · rw [Int32.lt_iff_toInt_lt] at c1 c2
      omega
