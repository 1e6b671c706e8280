/-! pure: both worlds as they are made -/
def σ0 : St := su (su (su (su (su (fun _ _ => 0) 0 8 (-1)) 0 9 (-1)) 4 0 8) 7 0 12) 14 0 12
def τ0 : St := su (fun _ _ => 0) 0 36 (-1)
theorem R_init : R σ0 τ0 := by
  have z : ∀ k : Nat, σ0 2 k = 0 := fun _ => rfl
  refine ⟨0, fun _ => 0, RR.mk' ⟨by decide, by decide, fun k => ⟨by rw [z]; decide, by rw [z]; decide⟩⟩ ⟨by decide, by decide⟩ (fun k => ⟨show (-128 : Int) ≤ 0 by decide, show (0 : Int) ≤ 127 by decide⟩) rfl (fun k hk => ?_) ?_ ?_ ?_ ?_ ?_ (by decide) rfl rfl (fun t ht => absurd ht (Nat.not_lt_zero t)) (fun t ht => absurd ht (Nat.not_lt_zero t)) ⟨by decide, by decide⟩ ?_ ?_ rfl rfl ⟨by decide, by decide⟩ rfl ?_ ?_ (fun d _ => ⟨show (-1 : Int) ≤ 0 by decide, show (0 : Int) < 32 by decide⟩) (fun q => absurd q (by decide)) rfl ⟨by decide, by decide⟩ (fun k hk => ?_) rfl ⟨by decide, by decide⟩ (fun k hk => ?_)⟩
  · exact absurd hk (Nat.not_lt_zero k)
  · exact ⟨rfl, by decide, by decide, fun k => ⟨show (0 : Int) ≤ 0 by decide, show (0 : Int) ≤ 8 by decide⟩, fun k => ⟨show (0 : Int) ≤ 0 by decide, show (0 : Int) ≤ 255 by decide⟩⟩
  · exact ⟨rfl, by decide, by decide, fun k => ⟨show (0 : Int) ≤ 0 by decide, show (0 : Int) ≤ 12 by decide⟩, fun k => ⟨show (0 : Int) ≤ 0 by decide, show (0 : Int) ≤ 255 by decide⟩⟩
  · exact ⟨⟨rfl, fun k hk => absurd hk (by show ¬ (k : Int) < 0; omega)⟩, ⟨rfl, fun k hk => absurd hk (by show ¬ (k : Int) < 0; omega)⟩⟩
  · exact ⟨fun k => ⟨show (0 : Int) ≤ 0 by decide, show (0 : Int) ≤ 8 by decide⟩, fun k => ⟨show (-128 : Int) ≤ 0 by decide, show (0 : Int) ≤ 127 by decide⟩, fun k => ⟨show (0 : Int) ≤ 0 by decide, show (0 : Int) ≤ 12 by decide⟩, fun k => ⟨show (-128 : Int) ≤ 0 by decide, show (0 : Int) ≤ 127 by decide⟩⟩
  · intro a b _ hb
    exact absurd hb (by show ¬ (b : Int) < 0; omega)
  · exact ⟨rfl, by decide, by decide, fun k => ⟨show (0 : Int) ≤ 0 by decide, show (0 : Int) ≤ 12 by decide⟩, fun k => ⟨show (0 : Int) ≤ 0 by decide, show (0 : Int) ≤ 255 by decide⟩⟩
  · exact ⟨rfl, fun k hk => absurd hk (by show ¬ (k : Int) < 0; omega)⟩
  · intro k
    exact ⟨⟨show (0 : Int) ≤ 0 by decide, show (0 : Int) ≤ 1000000000 by decide⟩, ⟨show (0 : Int) ≤ 0 by decide, show (0 : Int) ≤ 1000000000 by decide⟩, ⟨show (0 : Int) ≤ 0 by decide, show (0 : Int) ≤ 1000000000 by decide⟩, ⟨show (0 : Int) ≤ 0 by decide, show (0 : Int) ≤ 1000000000 by decide⟩⟩
  · intro k
    exact ⟨⟨show (0 : Int) ≤ 0 by decide, show (0 : Int) ≤ 1000000000 by decide⟩, ⟨show (0 : Int) ≤ 0 by decide, show (0 : Int) ≤ 1000000000 by decide⟩⟩
  · exact absurd hk (by show ¬ (k : Int) < 7 * 0; omega)
  · exact absurd hk (by show ¬ (k : Int) < 6 * 0; omega)
