/-! the start: the relation holds of what the two constructors leave -/
def Cst : St := fun w => match w with
  | 5 => fun j => if j = 0 then 1 else 0
  | 6 => fun _ => -1
  | 9 => fun _ => -1
  | 27 => fun _ => 32
  | 34 => fun _ => 32
  | 30 => fun _ => -1
  | 33 => fun _ => -1
  | _ => fun _ => 0
def Mst : St := fun w => match w with
  | 4 => fun _ => 1
  | 7 => fill (-1) 32
  | 11 => fill (-1) 32
  | _ => fun _ => 0
theorem cap_st : cap Cst = 32 := by
  show (32 : Int32).toNatClampNeg = 32
  decide +kernel
theorem capv_st : capv Cst = 32 := by
  show (32 : Int32).toNatClampNeg = 32
  decide +kernel
theorem bd_z {B : Nat} : bd B 0 := ⟨0, Nat.zero_le _, nI_0.symm⟩
theorem vp_0 {n : Nat} (h : 0 < n) : vp_in 0 n := by
  rw [← nI_0]
  intro z
  rcases z with z | z
  · exact absurd z (by decide +kernel)
  · rw [nI_clamp (by decide)] at z
    omega
theorem fill_32 {j : Nat} (h : j < 32) : fill (-1) 32 j = -1 := if_pos h
theorem Inv_st : Inv 0 20050 1 Cst Mst := by
  refine ⟨⟨by omega, nI_0.symm, fun i hi => absurd hi (by omega), fun i hi => absurd hi (by omega), fun k hk => Or.inl rfl, fun k hk => vp_0 (by omega), fun i hi => absurd hi (by omega), 0, 0, nI_0.symm, nI_0.symm, by omega, rfl, by omega, by rw [cap_st, capv_st], by rw [cap_st]; omega, by rw [cap_st]; omega, fun q hq => absurd hq (by omega)⟩, ⟨by omega, rfl, bd_z, fun j hj => rfl, fun n hn => ⟨by show -5 ≤ (0 : Int32).toInt; decide +kernel, by show (0 : Int32).toInt ≤ 5; decide +kernel⟩, fun j hj => rfl, fun n hn => bd_z, fun j hj => rfl⟩, ⟨by omega, by omega, by show (1 : Int32) = nI 1; decide +kernel, fun r hr => vp_0 (by omega), fun _ => 0, rfl, fun r hr => absurd hr (by omega), fun r hr => ⟨show 0 < 32 by decide, nI_0.symm⟩, fun k hk => ⟨fun z => ⟨0, by omega, ?_⟩, fun z => ?_⟩, fun k r hk hr h1 h2 => rfl⟩, ⟨fun j hj => (fill_32 hj).symm, fun j hj => rfl, fun j hj => rfl, fun j hj => (fill_32 hj).symm, fun k hk => bd_z⟩, ⟨nI_0.symm, fun j hj => absurd hj (by omega), fun j hj => absurd hj (by omega), fun j hj => absurd hj (by omega), fun j hj => absurd hj (by omega), fun j hj => absurd hj (by omega), fun j hj => absurd hj (by omega), fun j hj => absurd hj (by omega), fun j hj => absurd hj (by omega), fun i hi => absurd hi (by omega), fun i hi => absurd hi (by omega), fun i hi => absurd hi (by omega), fun i hi => absurd hi (by omega), fun i hi _ => vp_0 (by omega), fun i hi => vp_0 (by omega)⟩, ⟨fun i hi => absurd hi (by omega), fun i hi => absurd hi (by omega), fun i hi => absurd hi (by omega)⟩, fun k i hk hi => absurd hi (by omega), ⟨[], [], List.Perm.nil, nI_0.symm, nI_0.symm, by decide, (fun p e h => by cases h), (fun p e h => by cases h), (fun e h => by cases h), List.Pairwise.nil, fun k i hk hi => absurd hi (by omega)⟩, ⟨[], by decide, nI_0.symm, nI_0.symm, (fun p i h => by cases h), fun i hi => absurd hi (by omega), (fun i h => by cases h), List.Pairwise.nil⟩⟩
  · by_cases e : k = 0
    · exact e.symm
    · exact absurd (show (if k = 0 then (1 : Int32) else 0) = 0 from if_neg e) z
  · obtain ⟨r, -, hr⟩ := z
    subst hr
    show ¬ (1 : Int32) = 0
    decide
