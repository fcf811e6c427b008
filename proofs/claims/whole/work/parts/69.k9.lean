/-! THE FIRST MEMORY -/
def mem0v (k j : Nat) : Int32 := if k = 7 ∧ j = 2 then 300 else if (k = 15 ∨ k = 17) ∧ j = 10 then -4 else if (k = 19 ∨ k = 22 ∨ k = 23) ∧ j = 5 then -1 else if k = 27 then ([0, 45, 0, 120, 800, -1] : List Int32).getD j 0 else if 83 ≤ k ∧ k < 143 ∧ k % 2 = 0 ∧ j = 5 then -1 else if 143 ≤ k ∧ k < 151 ∧ k % 2 = 1 ∧ j = 0 then -1 else if k = 151 ∧ j = 18 then 300 else if k = 151 ∧ j = 24 then -4 else if k = 151 ∧ j = 32 then 45 else if k = 151 ∧ j = 34 then 120 else if k = 151 ∧ j = 35 then 800 else 0
def mem0 : Mem := fun k => if k = 1 then wvT else if k = 152 then sinTab else if k = 26 ∨ k = 172 then fillV 5 (-2) (fun _ => 0) else if k = 39 ∨ k = 179 then fillV 25 5 (fun _ => 0) else if k = 180 then fillV 4 (-1) (fun _ => 0) else mem0v k
theorem rel0_S : RS mem0 := by unfold RS StOk; decide +kernel
theorem rel0_W : RW mem0 := by unfold RW; decide +kernel
theorem rel0_T : RT mem0 := by unfold RT; decide +kernel
theorem rel0_B : RB mem0 := ⟨rfl, rfl⟩
theorem rel0_L : RLt mem0 := by unfold RLt; decide +kernel
theorem rel0_C : RC mem0 := by unfold RC; decide +kernel
theorem mem0_k : ∀ w, w < 2 → mem0 24 w = 0 ∧ mem0 170 w = 0 ∧ ∀ f, f < 5 → mem0 (22 + w) f = mem0 171 (6 * w + f) := by decide +kernel
theorem rel0_K : RK mem0 := by
  intro w hw
  obtain ⟨e1, e2, e3⟩ := mem0_k w hw
  refine ⟨by rw [e1, e2], fun f hf h5 => e3 f ?_, fun q => absurd e1 q⟩
  rcases (show f < 5 ∨ f = 5 by omega) with q | q
  · exact q
  · exact absurd e1 (h5 q)
theorem rel0_M : RM mem0 := by unfold RM manOk; decide +kernel
theorem rel0_O : RO mem0 := by unfold RO AimOk; decide +kernel
theorem rel0_G : RG mem0 := by unfold RG; decide +kernel
theorem rel0_H : RH mem0 := by unfold RH; decide +kernel
theorem rel0 : Rel mem0 := ⟨rel0_S, rel0_W, rel0_T, rel0_B, rel0_L, rel0_C, rel0_K, rel0_M, rel0_O, rel0_G, rel0_H⟩
