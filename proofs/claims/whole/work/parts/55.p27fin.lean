/-! PURE: all calls, and the beginning -/
theorem p_all : pAll pRel := ⟨p_desk, p_day, p_site, p_context, p_above, p_span, p_isAbove, p_year, p_find, p_object, p_store, p_carry, p_within, p_move, p_place, p_stored, p_loan, p_back, p_show, p_hang, p_take, p_claim, p_close, p_where, p_origin, p_hall, p_rule, p_count⟩
theorem pT_none {i j : Nat} (t : Relation.TransGen (fun _ _ : Nat => False) i j) : False := by
  induction t with
  | single h => exact h
  | tail _ h _ => exact h
theorem p_init : pRel st0H st0M := by
  have nine : ∀ k : Nat, 1 ≤ k → k ≤ 9 → k = 1 ∨ k = 2 ∨ k = 3 ∨ k = 4 ∨ k = 5 ∨ k = 6 ∨ k = 7 ∨ k = 8 ∨ k = 9 := fun k _ _ => by omega
  have no : ∀ {α : Prop} {j : Nat}, j < 0 → α := fun h => absurd h (Nat.not_lt_zero _)
  refine ⟨fun k => if k = 1 then 1 else 0, ⟨⟨0, by omega, rfl, rfl⟩, rfl, fun k a b => ?_, fun k a b => ?_, fun k a b => ?_⟩, ⟨by decide, fun j hj => ?_⟩, ⟨fun _ => 0, fun _ => 0, fun _ => 0, fun _ _ => False, fun j hj => no hj, fun j hj => no hj, fun j hj => no hj, fun i j t => t.elim, fun i j _ _ => Or.inr ⟨rfl, fun t => t⟩, fun i j hi _ => no hi, fun i t => pT_none t, fun j hj => no hj, fun u d t => (pT_none t).elim⟩, fun j hj => no hj, fun j hj => no hj, fun o _ => ⟨0, by omega, rfl, rfl, fun k hk => no hk, fun k k' hk => no hk⟩, ⟨fun _ _ => False, fun j hj => no hj, fun i j t => t.elim, fun i t => pT_none t⟩, ⟨fun _ => 0, fun _ => 0, fun _ => 0, fun j hj => no hj, fun j k hj => no hj⟩, ⟨fun _ => 0, fun _ => 0, fun _ => 0, fun _ _ => False, fun j hj => no hj, fun j o t => t.elim, fun j o _ _ => Or.inr ⟨rfl, fun t => t⟩, fun j o hj _ => no hj, fun j k o _ t => t.elim⟩, fun j hj => no hj⟩
  · rcases nine k a b with rfl | rfl | rfl | rfl | rfl | rfl | rfl | rfl | rfl <;> rfl
  · rcases nine k a b with rfl | rfl | rfl | rfl | rfl | rfl | rfl | rfl | rfl <;> rfl
  · rcases nine k a b with rfl | rfl | rfl | rfl | rfl | rfl | rfl | rfl | rfl <;> decide
  · have e : j = 0 := by
      have : j < 1 := hj
      omega
    subst e
    exact ⟨63, by decide, rfl, rfl⟩
