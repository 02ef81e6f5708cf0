/-! BOTH SIDES ARE ALIKE AT THE START -/
theorem f5_z {j : Nat} (h4 : j ≠ 4) (h8 : j ≠ 8) : f513 j = nI 0 := by
  unfold f513
  rw [ud_n h4, ud_n h8]
  decide
theorem z0_e : (0 : Int32) = nI 0 := by decide
theorem z0_z {a k : Nat} (h : zk a = 0) : s0.1 a k = nI 0 := by
  show zf (zk a) k = nI 0
  rw [h]
  exact z0_e
theorem sU_z {i : Nat} : sU f513 i = false := by
  unfold sU; rw [f5_z (by omega) (by omega)]; decide
theorem sR_z {i : Nat} : sR f513 i = false := by
  unfold sR; rw [f5_z (by omega) (by omega)]; decide
theorem sF_z {i : Nat} : sF f513 i = false := by
  unfold sF; rw [f5_z (by omega) (by omega)]; decide
theorem sIn_z : ∀ i, i < 8 → sIn f513 i = nI 0 := by decide +kernel
theorem wh_z {i : Nat} : wh f513 i = 0 := by
  unfold wh; rw [f5_z (by omega) (by omega)]; decide
theorem RW_z : RW s0 26 f513 := by
  refine ⟨⟨fun j => ?_, fun j => ?_, fun j => ?_, fun j => ?_, fun i _ h => ?_, fun i _ h => ?_, fun i _ h => ?_, fun i _ h => ?_, fun i _ h => ?_, fun i _ h => ?_, fun i _ h => ?_, fun i _ h => ?_, fun i hi => ?_, fun i hi => ?_, fun i _ h => ?_⟩, ⟨0, by omega, f5_z (by omega) (by omega), z0_z (by decide +kernel), fun j => ?_, fun c hc => ?_, fun c hc => ?_, fun c hc => ?_, fun c hc => ?_⟩, fun k hk => ⟨?_, ?_, ?_, ?_⟩, ⟨0, 0, by omega, by omega, f5_z (by omega) (by omega), z0_z (by decide +kernel), z0_z (by decide +kernel), fun g w hg => by omega⟩, ⟨0, 0, by omega, by omega, f5_z (by omega) (by omega), z0_z (by decide +kernel), z0_z (by decide +kernel), fun r hr => by omega⟩, ?_, ?_, ?_, ?_, ?_⟩
  · rw [z0_z (by decide +kernel), bt_n0, sR_z, Bool.and_false]
  · rw [z0_z (by decide +kernel), bt_n0, sF_z, Bool.and_false]
  · rw [z0_z (by decide +kernel), bt_n0, sU_z, Bool.false_and, Bool.and_false]
  · rw [z0_z (by decide +kernel), bt_n0, f5_z (by omega) (by omega), show decide (nI 0 = nI 1) = false by decide, Bool.and_false]
  · rw [sU_z] at h; cases h
  · rw [sU_z] at h; cases h
  · rw [sU_z] at h; cases h
  · rw [sU_z] at h; cases h
  · rw [sU_z] at h; cases h
  · rw [sU_z] at h; cases h
  · rw [sU_z] at h; cases h
  · rw [sU_z] at h; cases h
  · rw [z0_z (by decide +kernel), f5_z (by omega) (by omega)]
  · rw [z0_z (by decide +kernel), sIn_z i hi]
  · rw [sU_z] at h; cases h
  · rw [z0_z (by decide +kernel), bt_n0, f5_z (by omega) (by omega), show decide (nI 0 = nI 1) = false by decide, Bool.and_false]
  · rw [z0_z (by decide +kernel), f5_z (by omega) (by omega)]
  · rw [z0_z (by decide +kernel), f5_z (by omega) (by omega)]
  · rw [z0_z (by decide +kernel), f5_z (by omega) (by omega)]
  · rw [z0_z (by decide +kernel), f5_z (by omega) (by omega)]
  · rw [z0_z (by decide +kernel), f5_z (by omega) (by omega)]
  · rw [z0_z (by decide +kernel), f5_z (by omega) (by omega)]
  · rw [z0_z (by decide +kernel), f5_z (by omega) (by omega)]
  · rw [z0_z (by decide +kernel), f5_z (by omega) (by omega)]
  · decide +kernel
  · decide +kernel
  · decide +kernel
  · decide +kernel
  · decide +kernel
theorem IS_z : IS f513 := by
  refine ⟨fun i hi => ⟨?_, ?_⟩, fun i _ => Or.inl (f5_z (by omega) (by omega)), fun i _ _ w _ => f5_z (by omega) (by omega), fun i j _ h => ?_, fun i _ => Or.inl (f5_z (by omega) (by omega)), fun i j _ _ h => ?_, fun i j k _ _ _ h => ?_⟩
  · rw [wh_z]; exact f5_z (by omega) (by omega)
  · rw [wh_z]; omega
  · rw [f5_z (by omega) (by omega), bt_n0] at h; cases h
  · rw [sR_z] at h; cases h
  · rw [sR_z] at h; cases h
theorem IC_z : IC f513 := by
  refine ⟨0, by omega, f5_z (by omega) (by omega), fun c _ => Or.inl (f5_z (by omega) (by omega)), fun c w _ _ _ => f5_z (by omega) (by omega), fun c j _ _ => ⟨?_, ?_⟩, fun i _ h => ?_⟩
  · rw [f5_z (by omega) (by omega)]; exact bt_n0
  · rw [f5_z (by omega) (by omega)]; exact bt_n0
  · rw [sU_z] at h; cases h
theorem IA_z : IA 0 f513 := by
  have hn : hN f513 = 0 := by unfold hN; rw [f5_z (by omega) (by omega)]; decide
  refine ⟨⟨IS_z, IC_z, Or.inl (f5_z (by omega) (by omega)), ⟨by omega, f5_z (by omega) (by omega), fun i _ => ⟨⟨0, by omega, f5_z (by omega) (by omega)⟩, ⟨0, by omega, f5_z (by omega) (by omega)⟩, ⟨0, by omega, f5_z (by omega) (by omega)⟩⟩⟩, ⟨3, by omega, by decide +kernel⟩⟩, fun k _ => ⟨0, by omega, f5_z (by omega) (by omega)⟩, by rw [hn]; omega, by rw [hn]; exact f5_z (by omega) (by omega)⟩
theorem IUH_z : IUH 0 f513 := by
  refine ⟨fun c _ => ⟨⟨0, by omega, f5_z (by omega) (by omega)⟩, ⟨0, by omega, f5_z (by omega) (by omega)⟩⟩, fun i _ => by rw [wh_z]; omega, fun j hj => ?_⟩
  unfold HX at hj
  rw [f5_z (by omega) (by omega)]
  exact ⟨Int32.le_refl _, fun _ => by decide⟩
theorem G_00 : G 0 s0 := by
  refine ⟨⟨RW_z, Or.inl ⟨by decide +kernel, by decide +kernel⟩, 0, by omega, IA_z⟩, Or.inl ⟨by decide +kernel, by decide +kernel⟩, ⟨0, 0, by omega, by omega, by decide +kernel, by decide +kernel, by decide +kernel, fun d hd => by omega⟩, ⟨0, by omega, by decide +kernel, by decide +kernel, by decide +kernel, fun i hi => by omega⟩, by decide +kernel, IUH_z, fun e => absurd e (by decide +kernel), fun r hr e p hp' => ?_⟩
  have e' : nI 0 = nI r := (show s0.1 512 7 = nI 0 by decide +kernel).symm.trans e
  rw [nI_eqv (by omega) (by omega)] at e'
  omega
