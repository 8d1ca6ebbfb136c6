section ALLM
theorem all15 {E : zE} {ad : Nat → Nat} : (some (.inl (E.2 3, 600, .inr (.inr (.inr (.inr (fun _ => none)))))) : Option va_E) = some (.inl (E.2 3, 600, .inr (.inr (.inr (.inr (fun j => if j < 0 then some (ad (100 + 4 * j)) else none)))))) := by
  have e : (fun j => if j < 0 then some (ad (100 + 4 * j)) else none) = (fun _ => none) := by funext j; rw [if_neg (Nat.not_lt_zero j)]
  rw [e]
variable {E : zE} {ad : Nat → Nat} {h : zH}
theorem all_made (hS : kR E ad [(0, .inr (0, [.inr 1, .inr 9, .inr 11, .inr 14, .inr 17, .inr 18, .inr 22, .inr 23])), (1, .inr (6, [.inr 2, .inr 3, .inr 4, .inr 5, .inr 6, .inr 7, .inr 8, .inl (.int 0), .inl (.int 0), .inl (.int 0)])), (2, .inl (0, 8)), (3, .inl (0, 8)), (4, .inl (0, 8)), (5, .inl (0, 16)), (6, .inl (0, 16)), (7, .inl (1, 16)), (8, .inl (4, 16)), (24, .inl (0, 8)), (25, .inl (0, 8)), (26, .inl (0, 8)), (27, .inl (0, 8)), (28, .inl (0, 8)), (29, .inl (0, 8)), (30, .inl (0, 8)), (31, .inl (0, 8)), (32, .inl (0, 8)), (33, .inl (0, 8)), (34, .inl (0, 8)), (35, .inl (0, 8)), (36, .inl (0, 8)), (37, .inl (0, 8)), (38, .inl (0, 8)), (39, .inl (0, 8)), (9, .inr (1, [.inr 10, .inl (.int 0), .inl (.int 0)])), (10, .inl (0, 8)), (11, .inr (5, [.inr 12, .inr 13])), (12, .inl (2, 8)), (13, .inl (0, 8)), (14, .inr (9, [.inr 15, .inl (.int 0), .inl (.int 0)])), (15, .inl (3, 600)), (22, .inl (0, 3)), (23, .inl (0, 8)), (16, .inr (3, [.inr 1, .inr 9, .inl (.int 0)])), (17, .inr (8, [.inr 1, .inr 9, .inr 11, .inr 14, .inr 16, .inr 22])), (18, .inr (7, [.inr 1, .inr 14, .inr 16, .inr 19])), (19, .inr (2, [.inr 20, .inr 21])), (20, .inl (0, 8)), (21, .inl (0, 8)), (40, .inr (10, [.inl (.int 0), .inl (.int 0), .inr 41, .inr 42, .inr 43, .inr 44, .inr 45, .inr 46, .inl (.int 0), .inr 47, .inr 48, .inr 49, .inr 50, .inr 51, .inl (.int 0), .inl (.int 0), .inr 52, .inl (.int 0), .inl (.int 0), .inr 53, .inr 54, .inr 55, .inr 56, .inr 57, .inr 58, .inr 59, .inr 60, .inr 61, .inr 62, .inr 63, .inl (.int 0)])), (41, .inl (0, 8)), (42, .inl (0, 8)), (43, .inl (2, 8)), (44, .inl (0, 8)), (45, .inl (0, 8)), (46, .inl (0, 8)), (47, .inl (0, 128)), (48, .inl (0, 16)), (49, .inl (0, 16)), (50, .inl (1, 16)), (51, .inl (0, 3)), (52, .inl (0, 8)), (53, .inl (0, 600)), (54, .inl (0, 600)), (55, .inl (0, 600)), (56, .inl (0, 600)), (57, .inl (0, 600)), (58, .inl (0, 600)), (59, .inl (0, 600)), (60, .inl (0, 4800)), (61, .inl (0, 4800)), (62, .inl (0, 8)), (63, .inl (0, 8))] h) : zRep E ad 0 (fun _ _ => 0) (fun _ _ => 0) h := by
  intro k
  rw [hS k]
  rcases Nat.lt_or_ge k 64 with q | q
  · match k, q with
    | 0, _ => rfl
    | 1, _ => rfl
    | 2, _ => rfl
    | 3, _ => rfl
    | 4, _ => rfl
    | 5, _ => rfl
    | 6, _ => rfl
    | 7, _ => rfl
    | 8, _ => rfl
    | 9, _ => rfl
    | 10, _ => rfl
    | 11, _ => rfl
    | 12, _ => rfl
    | 13, _ => rfl
    | 14, _ => rfl
    | 15, _ => exact all15
    | 16, _ => rfl
    | 17, _ => rfl
    | 18, _ => rfl
    | 19, _ => rfl
    | 20, _ => rfl
    | 21, _ => rfl
    | 22, _ => rfl
    | 23, _ => rfl
    | 24, _ => rfl
    | 25, _ => rfl
    | 26, _ => rfl
    | 27, _ => rfl
    | 28, _ => rfl
    | 29, _ => rfl
    | 30, _ => rfl
    | 31, _ => rfl
    | 32, _ => rfl
    | 33, _ => rfl
    | 34, _ => rfl
    | 35, _ => rfl
    | 36, _ => rfl
    | 37, _ => rfl
    | 38, _ => rfl
    | 39, _ => rfl
    | 40, _ => rfl
    | 41, _ => rfl
    | 42, _ => rfl
    | 43, _ => rfl
    | 44, _ => rfl
    | 45, _ => rfl
    | 46, _ => rfl
    | 47, _ => rfl
    | 48, _ => rfl
    | 49, _ => rfl
    | 50, _ => rfl
    | 51, _ => rfl
    | 52, _ => rfl
    | 53, _ => rfl
    | 54, _ => rfl
    | 55, _ => rfl
    | 56, _ => rfl
    | 57, _ => rfl
    | 58, _ => rfl
    | 59, _ => rfl
    | 60, _ => rfl
    | 61, _ => rfl
    | 62, _ => rfl
    | 63, _ => rfl
    | k + 64, q => omega
  · rw [lk_ge rfl q]
    obtain ⟨j, rfl⟩ : ∃ j, k = j + 64 := ⟨k - 64, by omega⟩
    unfold zb
    simp only [Nat.not_lt_zero, and_false, if_false]
    rfl
end ALLM
