/-! THE LAW: its loop -/
section LW
variable {L : Nat} {xs : Int → Int} {m : aM} {Q : Option aV → aM → Prop}
theorem lw_row {i : Int} (hi : 0 ≤ i ∧ i + 6 ≤ (L : Int)) (hL : L ≤ 3072) (hI : iA m) (hx : ∀ j, -2147483648 ≤ xs j ∧ xs j < 2147483648) (K : ∀ m', iA m' → az_E (some (L, xs)) az_G 218 zL_law_18 [some (.inr (.inr (1))), some (.inr (.inr (20))), some (.inr (.inr (280))), some (.inl (i + 6))] [] m' Q) : az_E (some (L, xs)) az_G 218 zL_law_184 [some (.inr (.inr (1))), some (.inr (.inr (20))), some (.inr (.inr (280))), some (.inl (i))] [] m Q := by
  refine r_aload_n rfl ?_
  refine r_aload_n rfl ?_
  refine r_iload_n rfl ?_
  refine r_iconst ?_
  first | refine r_iadd (az_wid (by omega) (by omega)) ?_ | refine r_iaddw ?_
  refine r_sld rfl (by omega) (by omega) ?_
  refine r_aload_n rfl ?_
  refine r_iload_n rfl ?_
  refine r_iconst ?_
  first | refine r_iadd (az_wid (by omega) (by omega)) ?_ | refine r_iaddw ?_
  refine r_sld rfl (by omega) (by omega) ?_
  refine r_aload_n rfl ?_
  refine r_iload_n rfl ?_
  refine r_iconst ?_
  first | refine r_iadd (az_wid (by omega) (by omega)) ?_ | refine r_iaddw ?_
  refine r_sld rfl (by omega) (by omega) ?_
  refine r_cV4 g_19 rfl (Nat.le_of_ble_eq_true rfl) (Nat.le_of_ble_eq_true rfl) (st_row hI _ _ _) (fun v_200 m_200 hq_200 => ?_)
  obtain ⟨x, rfl, h8⟩ := hq_200
  refine r_aload_n rfl ?_
  refine r_aload_n rfl ?_
  refine r_iload_n rfl ?_
  refine r_iconst ?_
  first | refine r_iadd (az_wid (by omega) (by omega)) ?_ | refine r_iaddw ?_
  refine r_sld rfl (by omega) (by omega) ?_
  refine r_aload_n rfl ?_
  refine r_iload_n rfl ?_
  refine r_iconst ?_
  first | refine r_iadd (az_wid (by omega) (by omega)) ?_ | refine r_iaddw ?_
  refine r_sld rfl (by omega) (by omega) ?_
  refine r_aload_n rfl ?_
  refine r_iload_n rfl ?_
  refine r_iconst ?_
  first | refine r_iadd (az_wid (by omega) (by omega)) ?_ | refine r_iaddw ?_
  refine r_sld rfl (by omega) (by omega) ?_
  refine r_cV4 g_279 rfl (Nat.le_of_ble_eq_true rfl) (Nat.le_of_ble_eq_true rfl) (h8) (fun v_219 m_219 hq_219 => ?_)
  obtain ⟨rfl, hI2⟩ := hq_219
  refine r_icmp_eq kL_law_1206 (fun c1 => ?_) (fun c1 => absurd c1 (fun q => q rfl))
  refine r_iinc rfl (az_wid (by omega) (by omega)) rfl ?_
  refine r_goto kL_law_18 ?_
  exact K _ hI2
theorem lw_set {i : Int} (hi : 0 ≤ i ∧ i + 6 ≤ (L : Int)) (hL : L ≤ 3072) (hI : iA m) (hx : ∀ j, -2147483648 ≤ xs j ∧ xs j < 2147483648) (K : ∀ m', iA m' → az_E (some (L, xs)) az_G 218 zL_law_18 [some (.inr (.inr (1))), some (.inr (.inr (20))), some (.inr (.inr (280))), some (.inl (i + 6))] [] m' Q) : az_E (some (L, xs)) az_G 218 zL_law_227 [some (.inr (.inr (1))), some (.inr (.inr (20))), some (.inr (.inr (280))), some (.inl (i))] [] m Q := by
  refine r_aload_n rfl ?_
  refine r_aload_n rfl ?_
  refine r_iload_n rfl ?_
  refine r_iconst ?_
  first | refine r_iadd (az_wid (by omega) (by omega)) ?_ | refine r_iaddw ?_
  refine r_sld rfl (by omega) (by omega) ?_
  refine r_aload_n rfl ?_
  refine r_iload_n rfl ?_
  refine r_iconst ?_
  first | refine r_iadd (az_wid (by omega) (by omega)) ?_ | refine r_iaddw ?_
  refine r_sld rfl (by omega) (by omega) ?_
  refine r_aload_n rfl ?_
  refine r_iload_n rfl ?_
  refine r_iconst ?_
  first | refine r_iadd (az_wid (by omega) (by omega)) ?_ | refine r_iaddw ?_
  refine r_sld rfl (by omega) (by omega) ?_
  refine r_cV4 g_19 rfl (Nat.le_of_ble_eq_true rfl) (Nat.le_of_ble_eq_true rfl) (st_set hI _ _ _ (hx _)) (fun v_243 m_243 hq_243 => ?_)
  obtain ⟨x, rfl, h8⟩ := hq_243
  refine r_aload_n rfl ?_
  refine r_aload_n rfl ?_
  refine r_iload_n rfl ?_
  refine r_iconst ?_
  first | refine r_iadd (az_wid (by omega) (by omega)) ?_ | refine r_iaddw ?_
  refine r_sld rfl (by omega) (by omega) ?_
  refine r_aload_n rfl ?_
  refine r_iload_n rfl ?_
  refine r_iconst ?_
  first | refine r_iadd (az_wid (by omega) (by omega)) ?_ | refine r_iaddw ?_
  refine r_sld rfl (by omega) (by omega) ?_
  refine r_aload_n rfl ?_
  refine r_iload_n rfl ?_
  refine r_iconst ?_
  first | refine r_iadd (az_wid (by omega) (by omega)) ?_ | refine r_iaddw ?_
  refine r_sld rfl (by omega) (by omega) ?_
  refine r_cV4 g_279 rfl (Nat.le_of_ble_eq_true rfl) (Nat.le_of_ble_eq_true rfl) (h8) (fun v_262 m_262 hq_262 => ?_)
  obtain ⟨rfl, hI2⟩ := hq_262
  refine r_icmp_eq kL_law_1206 (fun c1 => ?_) (fun c1 => absurd c1 (fun q => q rfl))
  refine r_iinc rfl (az_wid (by omega) (by omega)) rfl ?_
  refine r_goto kL_law_18 ?_
  exact K _ hI2
theorem lw_copy {i : Int} (hi : 0 ≤ i ∧ i + 6 ≤ (L : Int)) (hL : L ≤ 3072) (hI : iA m) (hx : ∀ j, -2147483648 ≤ xs j ∧ xs j < 2147483648) (K : ∀ m', iA m' → az_E (some (L, xs)) az_G 218 zL_law_18 [some (.inr (.inr (1))), some (.inr (.inr (20))), some (.inr (.inr (280))), some (.inl (i + 6))] [] m' Q) : az_E (some (L, xs)) az_G 218 zL_law_270 [some (.inr (.inr (1))), some (.inr (.inr (20))), some (.inr (.inr (280))), some (.inl (i))] [] m Q := by
  refine r_aload_n rfl ?_
  refine r_aload_n rfl ?_
  refine r_iload_n rfl ?_
  refine r_iconst ?_
  first | refine r_iadd (az_wid (by omega) (by omega)) ?_ | refine r_iaddw ?_
  refine r_sld rfl (by omega) (by omega) ?_
  refine r_aload_n rfl ?_
  refine r_iload_n rfl ?_
  refine r_iconst ?_
  first | refine r_iadd (az_wid (by omega) (by omega)) ?_ | refine r_iaddw ?_
  refine r_sld rfl (by omega) (by omega) ?_
  refine r_aload_n rfl ?_
  refine r_iload_n rfl ?_
  refine r_iconst ?_
  first | refine r_iadd (az_wid (by omega) (by omega)) ?_ | refine r_iaddw ?_
  refine r_sld rfl (by omega) (by omega) ?_
  refine r_aload_n rfl ?_
  refine r_iload_n rfl ?_
  refine r_iconst ?_
  first | refine r_iadd (az_wid (by omega) (by omega)) ?_ | refine r_iaddw ?_
  refine r_sld rfl (by omega) (by omega) ?_
  refine r_aload_n rfl ?_
  refine r_iload_n rfl ?_
  refine r_iconst ?_
  first | refine r_iadd (az_wid (by omega) (by omega)) ?_ | refine r_iaddw ?_
  refine r_sld rfl (by omega) (by omega) ?_
  refine r_cV6 g_19 rfl (Nat.le_of_ble_eq_true rfl) (Nat.le_of_ble_eq_true rfl) (st_copy hI _ _ _ _ _ (hx _) (hx _) (hx _)) (fun v_296 m_296 hq_296 => ?_)
  obtain ⟨x, rfl, h8⟩ := hq_296
  refine r_aload_n rfl ?_
  refine r_aload_n rfl ?_
  refine r_iload_n rfl ?_
  refine r_iconst ?_
  first | refine r_iadd (az_wid (by omega) (by omega)) ?_ | refine r_iaddw ?_
  refine r_sld rfl (by omega) (by omega) ?_
  refine r_aload_n rfl ?_
  refine r_iload_n rfl ?_
  refine r_iconst ?_
  first | refine r_iadd (az_wid (by omega) (by omega)) ?_ | refine r_iaddw ?_
  refine r_sld rfl (by omega) (by omega) ?_
  refine r_aload_n rfl ?_
  refine r_iload_n rfl ?_
  refine r_iconst ?_
  first | refine r_iadd (az_wid (by omega) (by omega)) ?_ | refine r_iaddw ?_
  refine r_sld rfl (by omega) (by omega) ?_
  refine r_aload_n rfl ?_
  refine r_iload_n rfl ?_
  refine r_iconst ?_
  first | refine r_iadd (az_wid (by omega) (by omega)) ?_ | refine r_iaddw ?_
  refine r_sld rfl (by omega) (by omega) ?_
  refine r_aload_n rfl ?_
  refine r_iload_n rfl ?_
  refine r_iconst ?_
  first | refine r_iadd (az_wid (by omega) (by omega)) ?_ | refine r_iaddw ?_
  refine r_sld rfl (by omega) (by omega) ?_
  refine r_cV6 g_279 rfl (Nat.le_of_ble_eq_true rfl) (Nat.le_of_ble_eq_true rfl) (h8) (fun v_325 m_325 hq_325 => ?_)
  obtain ⟨rfl, hI2⟩ := hq_325
  refine r_icmp_eq kL_law_1206 (fun c1 => ?_) (fun c1 => absurd c1 (fun q => q rfl))
  refine r_iinc rfl (az_wid (by omega) (by omega)) rfl ?_
  refine r_goto kL_law_18 ?_
  exact K _ hI2
theorem lw_drop {i : Int} (hi : 0 ≤ i ∧ i + 6 ≤ (L : Int)) (hL : L ≤ 3072) (hI : iA m) (hx : ∀ j, -2147483648 ≤ xs j ∧ xs j < 2147483648) (K : ∀ m', iA m' → az_E (some (L, xs)) az_G 218 zL_law_18 [some (.inr (.inr (1))), some (.inr (.inr (20))), some (.inr (.inr (280))), some (.inl (i + 6))] [] m' Q) : az_E (some (L, xs)) az_G 218 zL_law_333 [some (.inr (.inr (1))), some (.inr (.inr (20))), some (.inr (.inr (280))), some (.inl (i))] [] m Q := by
  refine r_aload_n rfl ?_
  refine r_aload_n rfl ?_
  refine r_iload_n rfl ?_
  refine r_iconst ?_
  first | refine r_iadd (az_wid (by omega) (by omega)) ?_ | refine r_iaddw ?_
  refine r_sld rfl (by omega) (by omega) ?_
  refine r_cV2 g_19 rfl (Nat.le_of_ble_eq_true rfl) (Nat.le_of_ble_eq_true rfl) (st_drop hI _) (fun v_339 m_339 hq_339 => ?_)
  obtain ⟨x, rfl, h8⟩ := hq_339
  refine r_aload_n rfl ?_
  refine r_aload_n rfl ?_
  refine r_iload_n rfl ?_
  refine r_iconst ?_
  first | refine r_iadd (az_wid (by omega) (by omega)) ?_ | refine r_iaddw ?_
  refine r_sld rfl (by omega) (by omega) ?_
  refine r_cV2 g_279 rfl (Nat.le_of_ble_eq_true rfl) (Nat.le_of_ble_eq_true rfl) (h8) (fun v_348 m_348 hq_348 => ?_)
  obtain ⟨rfl, hI2⟩ := hq_348
  refine r_icmp_eq kL_law_1206 (fun c1 => ?_) (fun c1 => absurd c1 (fun q => q rfl))
  refine r_iinc rfl (az_wid (by omega) (by omega)) rfl ?_
  refine r_goto kL_law_18 ?_
  exact K _ hI2
theorem lw_feed {i : Int} (hi : 0 ≤ i ∧ i + 6 ≤ (L : Int)) (hL : L ≤ 3072) (hI : iA m) (hx : ∀ j, -2147483648 ≤ xs j ∧ xs j < 2147483648) (K : ∀ m', iA m' → az_E (some (L, xs)) az_G 218 zL_law_18 [some (.inr (.inr (1))), some (.inr (.inr (20))), some (.inr (.inr (280))), some (.inl (i + 6))] [] m' Q) : az_E (some (L, xs)) az_G 218 zL_law_356 [some (.inr (.inr (1))), some (.inr (.inr (20))), some (.inr (.inr (280))), some (.inl (i))] [] m Q := by
  refine r_aload_n rfl ?_
  refine r_aload_n rfl ?_
  refine r_iload_n rfl ?_
  refine r_iconst ?_
  first | refine r_iadd (az_wid (by omega) (by omega)) ?_ | refine r_iaddw ?_
  refine r_sld rfl (by omega) (by omega) ?_
  refine r_i2l ?_
  refine r_bipush ?_
  refine r_lshl rfl ?_
  refine r_aload_n rfl ?_
  refine r_iload_n rfl ?_
  refine r_iconst ?_
  first | refine r_iadd (az_wid (by omega) (by omega)) ?_ | refine r_iaddw ?_
  refine r_sld rfl (by omega) (by omega) ?_
  refine r_i2l ?_
  refine r_ldc2 ?_
  refine r_land rfl ?_
  refine r_lor rfl ?_
  refine r_aload_n rfl ?_
  refine r_iload_n rfl ?_
  refine r_iconst ?_
  first | refine r_iadd (az_wid (by omega) (by omega)) ?_ | refine r_iaddw ?_
  refine r_sld rfl (by omega) (by omega) ?_
  refine r_cV3 g_19 rfl (Nat.le_of_ble_eq_true rfl) (Nat.le_of_ble_eq_true rfl) (st_feed hI _ _) (fun v_382 m_382 hq_382 => ?_)
  obtain ⟨x, rfl, h8⟩ := hq_382
  refine r_aload_n rfl ?_
  refine r_aload_n rfl ?_
  refine r_iload_n rfl ?_
  refine r_iconst ?_
  first | refine r_iadd (az_wid (by omega) (by omega)) ?_ | refine r_iaddw ?_
  refine r_sld rfl (by omega) (by omega) ?_
  refine r_i2l ?_
  refine r_bipush ?_
  refine r_lshl rfl ?_
  refine r_aload_n rfl ?_
  refine r_iload_n rfl ?_
  refine r_iconst ?_
  first | refine r_iadd (az_wid (by omega) (by omega)) ?_ | refine r_iaddw ?_
  refine r_sld rfl (by omega) (by omega) ?_
  refine r_i2l ?_
  refine r_ldc2 ?_
  refine r_land rfl ?_
  refine r_lor rfl ?_
  refine r_aload_n rfl ?_
  refine r_iload_n rfl ?_
  refine r_iconst ?_
  first | refine r_iadd (az_wid (by omega) (by omega)) ?_ | refine r_iaddw ?_
  refine r_sld rfl (by omega) (by omega) ?_
  refine r_cV3 g_279 rfl (Nat.le_of_ble_eq_true rfl) (Nat.le_of_ble_eq_true rfl) (h8) (fun v_411 m_411 hq_411 => ?_)
  obtain ⟨rfl, hI2⟩ := hq_411
  refine r_icmp_eq kL_law_1206 (fun c1 => ?_) (fun c1 => absurd c1 (fun q => q rfl))
  refine r_iinc rfl (az_wid (by omega) (by omega)) rfl ?_
  refine r_goto kL_law_18 ?_
  exact K _ hI2
theorem lw_beach {i : Int} (hi : 0 ≤ i ∧ i + 6 ≤ (L : Int)) (hL : L ≤ 3072) (hI : iA m) (hx : ∀ j, -2147483648 ≤ xs j ∧ xs j < 2147483648) (K : ∀ m', iA m' → az_E (some (L, xs)) az_G 218 zL_law_18 [some (.inr (.inr (1))), some (.inr (.inr (20))), some (.inr (.inr (280))), some (.inl (i + 6))] [] m' Q) : az_E (some (L, xs)) az_G 218 zL_law_419 [some (.inr (.inr (1))), some (.inr (.inr (20))), some (.inr (.inr (280))), some (.inl (i))] [] m Q := by
  refine r_aload_n rfl ?_
  refine r_cV1 g_19 rfl (Nat.le_of_ble_eq_true rfl) (Nat.le_of_ble_eq_true rfl) (st_beach hI) (fun v_420 m_420 hq_420 => ?_)
  obtain ⟨x, rfl, h8⟩ := hq_420
  refine r_aload_n rfl ?_
  refine r_cV1 g_279 rfl (Nat.le_of_ble_eq_true rfl) (Nat.le_of_ble_eq_true rfl) (h8) (fun v_424 m_424 hq_424 => ?_)
  obtain ⟨rfl, hI2⟩ := hq_424
  refine r_icmp_eq kL_law_1206 (fun c1 => ?_) (fun c1 => absurd c1 (fun q => q rfl))
  refine r_iinc rfl (az_wid (by omega) (by omega)) rfl ?_
  refine r_goto kL_law_18 ?_
  exact K _ hI2
theorem lw_fault {i : Int} (hi : 0 ≤ i ∧ i + 6 ≤ (L : Int)) (hL : L ≤ 3072) (hI : iA m) (hx : ∀ j, -2147483648 ≤ xs j ∧ xs j < 2147483648) (K : ∀ m', iA m' → az_E (some (L, xs)) az_G 218 zL_law_18 [some (.inr (.inr (1))), some (.inr (.inr (20))), some (.inr (.inr (280))), some (.inl (i + 6))] [] m' Q) : az_E (some (L, xs)) az_G 218 zL_law_432 [some (.inr (.inr (1))), some (.inr (.inr (20))), some (.inr (.inr (280))), some (.inl (i))] [] m Q := by
  refine r_aload_n rfl ?_
  refine r_cV1 g_19 rfl (Nat.le_of_ble_eq_true rfl) (Nat.le_of_ble_eq_true rfl) (st_fault hI) (fun v_433 m_433 hq_433 => ?_)
  obtain ⟨x, rfl, h8⟩ := hq_433
  refine r_aload_n rfl ?_
  refine r_cV1 g_279 rfl (Nat.le_of_ble_eq_true rfl) (Nat.le_of_ble_eq_true rfl) (h8) (fun v_437 m_437 hq_437 => ?_)
  obtain ⟨rfl, hI2⟩ := hq_437
  refine r_icmp_eq kL_law_1206 (fun c1 => ?_) (fun c1 => absurd c1 (fun q => q rfl))
  refine r_iinc rfl (az_wid (by omega) (by omega)) rfl ?_
  refine r_goto kL_law_18 ?_
  exact K _ hI2
theorem lw_hour {i : Int} (hi : 0 ≤ i ∧ i + 6 ≤ (L : Int)) (hL : L ≤ 3072) (hI : iA m) (hx : ∀ j, -2147483648 ≤ xs j ∧ xs j < 2147483648) (K : ∀ m', iA m' → az_E (some (L, xs)) az_G 218 zL_law_18 [some (.inr (.inr (1))), some (.inr (.inr (20))), some (.inr (.inr (280))), some (.inl (i + 6))] [] m' Q) : az_E (some (L, xs)) az_G 218 zL_law_445 [some (.inr (.inr (1))), some (.inr (.inr (20))), some (.inr (.inr (280))), some (.inl (i))] [] m Q := by
  refine r_aload_n rfl ?_
  refine r_cV1 g_19 rfl (Nat.le_of_ble_eq_true rfl) (Nat.le_of_ble_eq_true rfl) (st_hour hI) (fun v_446 m_446 hq_446 => ?_)
  obtain ⟨x, rfl, h8⟩ := hq_446
  refine r_aload_n rfl ?_
  refine r_cV1 g_279 rfl (Nat.le_of_ble_eq_true rfl) (Nat.le_of_ble_eq_true rfl) (h8) (fun v_450 m_450 hq_450 => ?_)
  obtain ⟨rfl, hI2⟩ := hq_450
  refine r_icmp_eq kL_law_1206 (fun c1 => ?_) (fun c1 => absurd c1 (fun q => q rfl))
  refine r_iinc rfl (az_wid (by omega) (by omega)) rfl ?_
  refine r_goto kL_law_18 ?_
  exact K _ hI2
theorem lw_leave {i : Int} (hi : 0 ≤ i ∧ i + 6 ≤ (L : Int)) (hL : L ≤ 3072) (hI : iA m) (hx : ∀ j, -2147483648 ≤ xs j ∧ xs j < 2147483648) (K : ∀ m', iA m' → az_E (some (L, xs)) az_G 218 zL_law_18 [some (.inr (.inr (1))), some (.inr (.inr (20))), some (.inr (.inr (280))), some (.inl (i + 6))] [] m' Q) : az_E (some (L, xs)) az_G 218 zL_law_458 [some (.inr (.inr (1))), some (.inr (.inr (20))), some (.inr (.inr (280))), some (.inl (i))] [] m Q := by
  refine r_aload_n rfl ?_
  refine r_aload_n rfl ?_
  refine r_iload_n rfl ?_
  refine r_iconst ?_
  first | refine r_iadd (az_wid (by omega) (by omega)) ?_ | refine r_iaddw ?_
  refine r_sld rfl (by omega) (by omega) ?_
  refine r_cV2 g_19 rfl (Nat.le_of_ble_eq_true rfl) (Nat.le_of_ble_eq_true rfl) (st_leave hI _) (fun v_464 m_464 hq_464 => ?_)
  obtain ⟨x, rfl, h8⟩ := hq_464
  refine r_aload_n rfl ?_
  refine r_aload_n rfl ?_
  refine r_iload_n rfl ?_
  refine r_iconst ?_
  first | refine r_iadd (az_wid (by omega) (by omega)) ?_ | refine r_iaddw ?_
  refine r_sld rfl (by omega) (by omega) ?_
  refine r_cV2 g_279 rfl (Nat.le_of_ble_eq_true rfl) (Nat.le_of_ble_eq_true rfl) (h8) (fun v_473 m_473 hq_473 => ?_)
  obtain ⟨rfl, hI2⟩ := hq_473
  refine r_icmp_eq kL_law_1206 (fun c1 => ?_) (fun c1 => absurd c1 (fun q => q rfl))
  refine r_iinc rfl (az_wid (by omega) (by omega)) rfl ?_
  refine r_goto kL_law_18 ?_
  exact K _ hI2
theorem lw_cloud {i : Int} (hi : 0 ≤ i ∧ i + 6 ≤ (L : Int)) (hL : L ≤ 3072) (hI : iA m) (hx : ∀ j, -2147483648 ≤ xs j ∧ xs j < 2147483648) (K : ∀ m', iA m' → az_E (some (L, xs)) az_G 218 zL_law_18 [some (.inr (.inr (1))), some (.inr (.inr (20))), some (.inr (.inr (280))), some (.inl (i + 6))] [] m' Q) : az_E (some (L, xs)) az_G 218 zL_law_481 [some (.inr (.inr (1))), some (.inr (.inr (20))), some (.inr (.inr (280))), some (.inl (i))] [] m Q := by
  refine r_aload_n rfl ?_
  refine r_aload_n rfl ?_
  refine r_iload_n rfl ?_
  refine r_iconst ?_
  first | refine r_iadd (az_wid (by omega) (by omega)) ?_ | refine r_iaddw ?_
  refine r_sld rfl (by omega) (by omega) ?_
  refine r_cV2 g_19 rfl (Nat.le_of_ble_eq_true rfl) (Nat.le_of_ble_eq_true rfl) (st_cloud hI _) (fun v_487 m_487 hq_487 => ?_)
  obtain ⟨x, rfl, h8⟩ := hq_487
  refine r_aload_n rfl ?_
  refine r_aload_n rfl ?_
  refine r_iload_n rfl ?_
  refine r_iconst ?_
  first | refine r_iadd (az_wid (by omega) (by omega)) ?_ | refine r_iaddw ?_
  refine r_sld rfl (by omega) (by omega) ?_
  refine r_cV2 g_279 rfl (Nat.le_of_ble_eq_true rfl) (Nat.le_of_ble_eq_true rfl) (h8) (fun v_496 m_496 hq_496 => ?_)
  obtain ⟨rfl, hI2⟩ := hq_496
  refine r_icmp_eq kL_law_1206 (fun c1 => ?_) (fun c1 => absurd c1 (fun q => q rfl))
  refine r_iinc rfl (az_wid (by omega) (by omega)) rfl ?_
  refine r_goto kL_law_18 ?_
  exact K _ hI2
theorem lw_shade {i : Int} (hi : 0 ≤ i ∧ i + 6 ≤ (L : Int)) (hL : L ≤ 3072) (hI : iA m) (hx : ∀ j, -2147483648 ≤ xs j ∧ xs j < 2147483648) (K : ∀ m', iA m' → az_E (some (L, xs)) az_G 218 zL_law_18 [some (.inr (.inr (1))), some (.inr (.inr (20))), some (.inr (.inr (280))), some (.inl (i + 6))] [] m' Q) : az_E (some (L, xs)) az_G 218 zL_law_504 [some (.inr (.inr (1))), some (.inr (.inr (20))), some (.inr (.inr (280))), some (.inl (i))] [] m Q := by
  refine r_aload_n rfl ?_
  refine r_aload_n rfl ?_
  refine r_iload_n rfl ?_
  refine r_iconst ?_
  first | refine r_iadd (az_wid (by omega) (by omega)) ?_ | refine r_iaddw ?_
  refine r_sld rfl (by omega) (by omega) ?_
  refine r_aload_n rfl ?_
  refine r_iload_n rfl ?_
  refine r_iconst ?_
  first | refine r_iadd (az_wid (by omega) (by omega)) ?_ | refine r_iaddw ?_
  refine r_sld rfl (by omega) (by omega) ?_
  refine r_cV3 g_19 rfl (Nat.le_of_ble_eq_true rfl) (Nat.le_of_ble_eq_true rfl) (st_shade hI _ _) (fun v_515 m_515 hq_515 => ?_)
  obtain ⟨x, rfl, h8⟩ := hq_515
  refine r_aload_n rfl ?_
  refine r_aload_n rfl ?_
  refine r_iload_n rfl ?_
  refine r_iconst ?_
  first | refine r_iadd (az_wid (by omega) (by omega)) ?_ | refine r_iaddw ?_
  refine r_sld rfl (by omega) (by omega) ?_
  refine r_aload_n rfl ?_
  refine r_iload_n rfl ?_
  refine r_iconst ?_
  first | refine r_iadd (az_wid (by omega) (by omega)) ?_ | refine r_iaddw ?_
  refine r_sld rfl (by omega) (by omega) ?_
  refine r_cV3 g_279 rfl (Nat.le_of_ble_eq_true rfl) (Nat.le_of_ble_eq_true rfl) (h8) (fun v_529 m_529 hq_529 => ?_)
  obtain ⟨rfl, hI2⟩ := hq_529
  refine r_icmp_eq kL_law_1206 (fun c1 => ?_) (fun c1 => absurd c1 (fun q => q rfl))
  refine r_iinc rfl (az_wid (by omega) (by omega)) rfl ?_
  refine r_goto kL_law_18 ?_
  exact K _ hI2
theorem lw_gift {i : Int} (hi : 0 ≤ i ∧ i + 6 ≤ (L : Int)) (hL : L ≤ 3072) (hI : iA m) (hx : ∀ j, -2147483648 ≤ xs j ∧ xs j < 2147483648) (K : ∀ m', iA m' → az_E (some (L, xs)) az_G 218 zL_law_18 [some (.inr (.inr (1))), some (.inr (.inr (20))), some (.inr (.inr (280))), some (.inl (i + 6))] [] m' Q) : az_E (some (L, xs)) az_G 218 zL_law_537 [some (.inr (.inr (1))), some (.inr (.inr (20))), some (.inr (.inr (280))), some (.inl (i))] [] m Q := by
  refine r_aload_n rfl ?_
  refine r_aload_n rfl ?_
  refine r_iload_n rfl ?_
  refine r_iconst ?_
  first | refine r_iadd (az_wid (by omega) (by omega)) ?_ | refine r_iaddw ?_
  refine r_sld rfl (by omega) (by omega) ?_
  refine r_aload_n rfl ?_
  refine r_iload_n rfl ?_
  refine r_iconst ?_
  first | refine r_iadd (az_wid (by omega) (by omega)) ?_ | refine r_iaddw ?_
  refine r_sld rfl (by omega) (by omega) ?_
  refine r_cV3 g_19 rfl (Nat.le_of_ble_eq_true rfl) (Nat.le_of_ble_eq_true rfl) (st_gift hI _ _) (fun v_548 m_548 hq_548 => ?_)
  obtain ⟨x, rfl, h8⟩ := hq_548
  refine r_aload_n rfl ?_
  refine r_aload_n rfl ?_
  refine r_iload_n rfl ?_
  refine r_iconst ?_
  first | refine r_iadd (az_wid (by omega) (by omega)) ?_ | refine r_iaddw ?_
  refine r_sld rfl (by omega) (by omega) ?_
  refine r_aload_n rfl ?_
  refine r_iload_n rfl ?_
  refine r_iconst ?_
  first | refine r_iadd (az_wid (by omega) (by omega)) ?_ | refine r_iaddw ?_
  refine r_sld rfl (by omega) (by omega) ?_
  refine r_cV3 g_279 rfl (Nat.le_of_ble_eq_true rfl) (Nat.le_of_ble_eq_true rfl) (h8) (fun v_562 m_562 hq_562 => ?_)
  obtain ⟨rfl, hI2⟩ := hq_562
  refine r_icmp_eq kL_law_1206 (fun c1 => ?_) (fun c1 => absurd c1 (fun q => q rfl))
  refine r_iinc rfl (az_wid (by omega) (by omega)) rfl ?_
  refine r_goto kL_law_18 ?_
  exact K _ hI2
theorem lw_sunset {i : Int} (hi : 0 ≤ i ∧ i + 6 ≤ (L : Int)) (hL : L ≤ 3072) (hI : iA m) (hx : ∀ j, -2147483648 ≤ xs j ∧ xs j < 2147483648) (K : ∀ m', iA m' → az_E (some (L, xs)) az_G 218 zL_law_18 [some (.inr (.inr (1))), some (.inr (.inr (20))), some (.inr (.inr (280))), some (.inl (i + 6))] [] m' Q) : az_E (some (L, xs)) az_G 218 zL_law_570 [some (.inr (.inr (1))), some (.inr (.inr (20))), some (.inr (.inr (280))), some (.inl (i))] [] m Q := by
  refine r_aload_n rfl ?_
  refine r_cV1 g_19 rfl (Nat.le_of_ble_eq_true rfl) (Nat.le_of_ble_eq_true rfl) (st_sunset hI) (fun v_571 m_571 hq_571 => ?_)
  obtain ⟨x, rfl, h8⟩ := hq_571
  refine r_aload_n rfl ?_
  refine r_cV1 g_279 rfl (Nat.le_of_ble_eq_true rfl) (Nat.le_of_ble_eq_true rfl) (h8) (fun v_575 m_575 hq_575 => ?_)
  obtain ⟨rfl, hI2⟩ := hq_575
  refine r_icmp_eq kL_law_1206 (fun c1 => ?_) (fun c1 => absurd c1 (fun q => q rfl))
  refine r_iinc rfl (az_wid (by omega) (by omega)) rfl ?_
  refine r_goto kL_law_18 ?_
  exact K _ hI2
theorem lw_undo {i : Int} (hi : 0 ≤ i ∧ i + 6 ≤ (L : Int)) (hL : L ≤ 3072) (hI : iA m) (hx : ∀ j, -2147483648 ≤ xs j ∧ xs j < 2147483648) (K : ∀ m', iA m' → az_E (some (L, xs)) az_G 218 zL_law_18 [some (.inr (.inr (1))), some (.inr (.inr (20))), some (.inr (.inr (280))), some (.inl (i + 6))] [] m' Q) : az_E (some (L, xs)) az_G 218 zL_law_583 [some (.inr (.inr (1))), some (.inr (.inr (20))), some (.inr (.inr (280))), some (.inl (i))] [] m Q := by
  refine r_aload_n rfl ?_
  refine r_cV1 g_19 rfl (Nat.le_of_ble_eq_true rfl) (Nat.le_of_ble_eq_true rfl) (st_undo hI) (fun v_584 m_584 hq_584 => ?_)
  obtain ⟨x, rfl, h8⟩ := hq_584
  refine r_aload_n rfl ?_
  refine r_cV1 g_279 rfl (Nat.le_of_ble_eq_true rfl) (Nat.le_of_ble_eq_true rfl) (h8) (fun v_588 m_588 hq_588 => ?_)
  obtain ⟨rfl, hI2⟩ := hq_588
  refine r_icmp_eq kL_law_1206 (fun c1 => ?_) (fun c1 => absurd c1 (fun q => q rfl))
  refine r_iinc rfl (az_wid (by omega) (by omega)) rfl ?_
  refine r_goto kL_law_18 ?_
  exact K _ hI2
theorem lw_guest {i : Int} (hi : 0 ≤ i ∧ i + 6 ≤ (L : Int)) (hL : L ≤ 3072) (hI : iA m) (hx : ∀ j, -2147483648 ≤ xs j ∧ xs j < 2147483648) (K : ∀ m', iA m' → az_E (some (L, xs)) az_G 218 zL_law_18 [some (.inr (.inr (1))), some (.inr (.inr (20))), some (.inr (.inr (280))), some (.inl (i + 6))] [] m' Q) : az_E (some (L, xs)) az_G 218 zL_law_596 [some (.inr (.inr (1))), some (.inr (.inr (20))), some (.inr (.inr (280))), some (.inl (i))] [] m Q := by
  refine r_aload_n rfl ?_
  refine r_aload_n rfl ?_
  refine r_iload_n rfl ?_
  refine r_iconst ?_
  first | refine r_iadd (az_wid (by omega) (by omega)) ?_ | refine r_iaddw ?_
  refine r_sld rfl (by omega) (by omega) ?_
  refine r_aload_n rfl ?_
  refine r_iload_n rfl ?_
  refine r_iconst ?_
  first | refine r_iadd (az_wid (by omega) (by omega)) ?_ | refine r_iaddw ?_
  refine r_sld rfl (by omega) (by omega) ?_
  refine r_cV3 g_19 rfl (Nat.le_of_ble_eq_true rfl) (Nat.le_of_ble_eq_true rfl) (st_guest hI _ _) (fun v_607 m_607 hq_607 => ?_)
  obtain ⟨x, rfl, h8⟩ := hq_607
  refine r_aload_n rfl ?_
  refine r_aload_n rfl ?_
  refine r_iload_n rfl ?_
  refine r_iconst ?_
  first | refine r_iadd (az_wid (by omega) (by omega)) ?_ | refine r_iaddw ?_
  refine r_sld rfl (by omega) (by omega) ?_
  refine r_aload_n rfl ?_
  refine r_iload_n rfl ?_
  refine r_iconst ?_
  first | refine r_iadd (az_wid (by omega) (by omega)) ?_ | refine r_iaddw ?_
  refine r_sld rfl (by omega) (by omega) ?_
  refine r_cV3 g_279 rfl (Nat.le_of_ble_eq_true rfl) (Nat.le_of_ble_eq_true rfl) (h8) (fun v_621 m_621 hq_621 => ?_)
  obtain ⟨rfl, hI2⟩ := hq_621
  refine r_icmp_eq kL_law_1206 (fun c1 => ?_) (fun c1 => absurd c1 (fun q => q rfl))
  refine r_iinc rfl (az_wid (by omega) (by omega)) rfl ?_
  refine r_goto kL_law_18 ?_
  exact K _ hI2
theorem lw_price {i : Int} (hi : 0 ≤ i ∧ i + 6 ≤ (L : Int)) (hL : L ≤ 3072) (hI : iA m) (hx : ∀ j, -2147483648 ≤ xs j ∧ xs j < 2147483648) (K : ∀ m', iA m' → az_E (some (L, xs)) az_G 218 zL_law_18 [some (.inr (.inr (1))), some (.inr (.inr (20))), some (.inr (.inr (280))), some (.inl (i + 6))] [] m' Q) : az_E (some (L, xs)) az_G 218 zL_law_629 [some (.inr (.inr (1))), some (.inr (.inr (20))), some (.inr (.inr (280))), some (.inl (i))] [] m Q := by
  refine r_aload_n rfl ?_
  refine r_aload_n rfl ?_
  refine r_iload_n rfl ?_
  refine r_iconst ?_
  first | refine r_iadd (az_wid (by omega) (by omega)) ?_ | refine r_iaddw ?_
  refine r_sld rfl (by omega) (by omega) ?_
  refine r_cV2 g_19 rfl (Nat.le_of_ble_eq_true rfl) (Nat.le_of_ble_eq_true rfl) (st_price hI _) (fun v_635 m_635 hq_635 => ?_)
  obtain ⟨x, rfl, h8⟩ := hq_635
  refine r_aload_n rfl ?_
  refine r_aload_n rfl ?_
  refine r_iload_n rfl ?_
  refine r_iconst ?_
  first | refine r_iadd (az_wid (by omega) (by omega)) ?_ | refine r_iaddw ?_
  refine r_sld rfl (by omega) (by omega) ?_
  refine r_cV2 g_279 rfl (Nat.le_of_ble_eq_true rfl) (Nat.le_of_ble_eq_true rfl) (h8) (fun v_644 m_644 hq_644 => ?_)
  obtain ⟨rfl, hI2⟩ := hq_644
  refine r_icmp_eq kL_law_1206 (fun c1 => ?_) (fun c1 => absurd c1 (fun q => q rfl))
  refine r_iinc rfl (az_wid (by omega) (by omega)) rfl ?_
  refine r_goto kL_law_18 ?_
  exact K _ hI2
theorem lw_worth {i : Int} (hi : 0 ≤ i ∧ i + 6 ≤ (L : Int)) (hL : L ≤ 3072) (hI : iA m) (hx : ∀ j, -2147483648 ≤ xs j ∧ xs j < 2147483648) (K : ∀ m', iA m' → az_E (some (L, xs)) az_G 218 zL_law_18 [some (.inr (.inr (1))), some (.inr (.inr (20))), some (.inr (.inr (280))), some (.inl (i + 6))] [] m' Q) : az_E (some (L, xs)) az_G 218 zL_law_652 [some (.inr (.inr (1))), some (.inr (.inr (20))), some (.inr (.inr (280))), some (.inl (i))] [] m Q := by
  refine r_aload_n rfl ?_
  refine r_aload_n rfl ?_
  refine r_iload_n rfl ?_
  refine r_iconst ?_
  first | refine r_iadd (az_wid (by omega) (by omega)) ?_ | refine r_iaddw ?_
  refine r_sld rfl (by omega) (by omega) ?_
  refine r_aload_n rfl ?_
  refine r_iload_n rfl ?_
  refine r_iconst ?_
  first | refine r_iadd (az_wid (by omega) (by omega)) ?_ | refine r_iaddw ?_
  refine r_sld rfl (by omega) (by omega) ?_
  refine r_aload_n rfl ?_
  refine r_iload_n rfl ?_
  refine r_iconst ?_
  first | refine r_iadd (az_wid (by omega) (by omega)) ?_ | refine r_iaddw ?_
  refine r_sld rfl (by omega) (by omega) ?_
  refine r_cV4 g_19 rfl (Nat.le_of_ble_eq_true rfl) (Nat.le_of_ble_eq_true rfl) (st_worth hI _ _ _) (fun v_668 m_668 hq_668 => ?_)
  obtain ⟨x, rfl, h8⟩ := hq_668
  refine r_aload_n rfl ?_
  refine r_aload_n rfl ?_
  refine r_iload_n rfl ?_
  refine r_iconst ?_
  first | refine r_iadd (az_wid (by omega) (by omega)) ?_ | refine r_iaddw ?_
  refine r_sld rfl (by omega) (by omega) ?_
  refine r_aload_n rfl ?_
  refine r_iload_n rfl ?_
  refine r_iconst ?_
  first | refine r_iadd (az_wid (by omega) (by omega)) ?_ | refine r_iaddw ?_
  refine r_sld rfl (by omega) (by omega) ?_
  refine r_aload_n rfl ?_
  refine r_iload_n rfl ?_
  refine r_iconst ?_
  first | refine r_iadd (az_wid (by omega) (by omega)) ?_ | refine r_iaddw ?_
  refine r_sld rfl (by omega) (by omega) ?_
  refine r_cV4 g_279 rfl (Nat.le_of_ble_eq_true rfl) (Nat.le_of_ble_eq_true rfl) (h8) (fun v_687 m_687 hq_687 => ?_)
  obtain ⟨rfl, hI2⟩ := hq_687
  refine r_icmp_eq kL_law_1206 (fun c1 => ?_) (fun c1 => absurd c1 (fun q => q rfl))
  refine r_iinc rfl (az_wid (by omega) (by omega)) rfl ?_
  refine r_goto kL_law_18 ?_
  exact K _ hI2
theorem lw_best {i : Int} (hi : 0 ≤ i ∧ i + 6 ≤ (L : Int)) (hL : L ≤ 3072) (hI : iA m) (hx : ∀ j, -2147483648 ≤ xs j ∧ xs j < 2147483648) (K : ∀ m', iA m' → az_E (some (L, xs)) az_G 218 zL_law_18 [some (.inr (.inr (1))), some (.inr (.inr (20))), some (.inr (.inr (280))), some (.inl (i + 6))] [] m' Q) : az_E (some (L, xs)) az_G 218 zL_law_695 [some (.inr (.inr (1))), some (.inr (.inr (20))), some (.inr (.inr (280))), some (.inl (i))] [] m Q := by
  refine r_aload_n rfl ?_
  refine r_aload_n rfl ?_
  refine r_iload_n rfl ?_
  refine r_iconst ?_
  first | refine r_iadd (az_wid (by omega) (by omega)) ?_ | refine r_iaddw ?_
  refine r_sld rfl (by omega) (by omega) ?_
  refine r_aload_n rfl ?_
  refine r_iload_n rfl ?_
  refine r_iconst ?_
  first | refine r_iadd (az_wid (by omega) (by omega)) ?_ | refine r_iaddw ?_
  refine r_sld rfl (by omega) (by omega) ?_
  refine r_cV3 g_19 rfl (Nat.le_of_ble_eq_true rfl) (Nat.le_of_ble_eq_true rfl) (st_best hI _ _) (fun v_706 m_706 hq_706 => ?_)
  obtain ⟨x, rfl, h8⟩ := hq_706
  refine r_aload_n rfl ?_
  refine r_aload_n rfl ?_
  refine r_iload_n rfl ?_
  refine r_iconst ?_
  first | refine r_iadd (az_wid (by omega) (by omega)) ?_ | refine r_iaddw ?_
  refine r_sld rfl (by omega) (by omega) ?_
  refine r_aload_n rfl ?_
  refine r_iload_n rfl ?_
  refine r_iconst ?_
  first | refine r_iadd (az_wid (by omega) (by omega)) ?_ | refine r_iaddw ?_
  refine r_sld rfl (by omega) (by omega) ?_
  refine r_cV3 g_279 rfl (Nat.le_of_ble_eq_true rfl) (Nat.le_of_ble_eq_true rfl) (h8) (fun v_720 m_720 hq_720 => ?_)
  obtain ⟨rfl, hI2⟩ := hq_720
  refine r_icmp_eq kL_law_1206 (fun c1 => ?_) (fun c1 => absurd c1 (fun q => q rfl))
  refine r_iinc rfl (az_wid (by omega) (by omega)) rfl ?_
  refine r_goto kL_law_18 ?_
  exact K _ hI2
theorem lw_rounds {i : Int} (hi : 0 ≤ i ∧ i + 6 ≤ (L : Int)) (hL : L ≤ 3072) (hI : iA m) (hx : ∀ j, -2147483648 ≤ xs j ∧ xs j < 2147483648) (K : ∀ m', iA m' → az_E (some (L, xs)) az_G 218 zL_law_18 [some (.inr (.inr (1))), some (.inr (.inr (20))), some (.inr (.inr (280))), some (.inl (i + 6))] [] m' Q) : az_E (some (L, xs)) az_G 218 zL_law_728 [some (.inr (.inr (1))), some (.inr (.inr (20))), some (.inr (.inr (280))), some (.inl (i))] [] m Q := by
  refine r_aload_n rfl ?_
  refine r_aload_n rfl ?_
  refine r_iload_n rfl ?_
  refine r_iconst ?_
  first | refine r_iadd (az_wid (by omega) (by omega)) ?_ | refine r_iaddw ?_
  refine r_sld rfl (by omega) (by omega) ?_
  refine r_aload_n rfl ?_
  refine r_iload_n rfl ?_
  refine r_iconst ?_
  first | refine r_iadd (az_wid (by omega) (by omega)) ?_ | refine r_iaddw ?_
  refine r_sld rfl (by omega) (by omega) ?_
  refine r_cV3 g_19 rfl (Nat.le_of_ble_eq_true rfl) (Nat.le_of_ble_eq_true rfl) (st_rounds hI _ _) (fun v_739 m_739 hq_739 => ?_)
  obtain ⟨x, rfl, h8⟩ := hq_739
  refine r_aload_n rfl ?_
  refine r_aload_n rfl ?_
  refine r_iload_n rfl ?_
  refine r_iconst ?_
  first | refine r_iadd (az_wid (by omega) (by omega)) ?_ | refine r_iaddw ?_
  refine r_sld rfl (by omega) (by omega) ?_
  refine r_aload_n rfl ?_
  refine r_iload_n rfl ?_
  refine r_iconst ?_
  first | refine r_iadd (az_wid (by omega) (by omega)) ?_ | refine r_iaddw ?_
  refine r_sld rfl (by omega) (by omega) ?_
  refine r_cV3 g_279 rfl (Nat.le_of_ble_eq_true rfl) (Nat.le_of_ble_eq_true rfl) (h8) (fun v_753 m_753 hq_753 => ?_)
  obtain ⟨rfl, hI2⟩ := hq_753
  refine r_icmp_eq kL_law_1206 (fun c1 => ?_) (fun c1 => absurd c1 (fun q => q rfl))
  refine r_iinc rfl (az_wid (by omega) (by omega)) rfl ?_
  refine r_goto kL_law_18 ?_
  exact K _ hI2
theorem lw_rests {i : Int} (hi : 0 ≤ i ∧ i + 6 ≤ (L : Int)) (hL : L ≤ 3072) (hI : iA m) (hx : ∀ j, -2147483648 ≤ xs j ∧ xs j < 2147483648) (K : ∀ m', iA m' → az_E (some (L, xs)) az_G 218 zL_law_18 [some (.inr (.inr (1))), some (.inr (.inr (20))), some (.inr (.inr (280))), some (.inl (i + 6))] [] m' Q) : az_E (some (L, xs)) az_G 218 zL_law_761 [some (.inr (.inr (1))), some (.inr (.inr (20))), some (.inr (.inr (280))), some (.inl (i))] [] m Q := by
  refine r_aload_n rfl ?_
  refine r_aload_n rfl ?_
  refine r_iload_n rfl ?_
  refine r_iconst ?_
  first | refine r_iadd (az_wid (by omega) (by omega)) ?_ | refine r_iaddw ?_
  refine r_sld rfl (by omega) (by omega) ?_
  refine r_cV2 g_19 rfl (Nat.le_of_ble_eq_true rfl) (Nat.le_of_ble_eq_true rfl) (st_rests hI _) (fun v_767 m_767 hq_767 => ?_)
  obtain ⟨x, rfl, h8⟩ := hq_767
  refine r_aload_n rfl ?_
  refine r_aload_n rfl ?_
  refine r_iload_n rfl ?_
  refine r_iconst ?_
  first | refine r_iadd (az_wid (by omega) (by omega)) ?_ | refine r_iaddw ?_
  refine r_sld rfl (by omega) (by omega) ?_
  refine r_cV2 g_279 rfl (Nat.le_of_ble_eq_true rfl) (Nat.le_of_ble_eq_true rfl) (h8) (fun v_776 m_776 hq_776 => ?_)
  obtain ⟨rfl, hI2⟩ := hq_776
  refine r_icmp_eq kL_law_1206 (fun c1 => ?_) (fun c1 => absurd c1 (fun q => q rfl))
  refine r_iinc rfl (az_wid (by omega) (by omega)) rfl ?_
  refine r_goto kL_law_18 ?_
  exact K _ hI2
theorem lw_pact {i : Int} (hi : 0 ≤ i ∧ i + 6 ≤ (L : Int)) (hL : L ≤ 3072) (hI : iA m) (hx : ∀ j, -2147483648 ≤ xs j ∧ xs j < 2147483648) (K : ∀ m', iA m' → az_E (some (L, xs)) az_G 218 zL_law_18 [some (.inr (.inr (1))), some (.inr (.inr (20))), some (.inr (.inr (280))), some (.inl (i + 6))] [] m' Q) : az_E (some (L, xs)) az_G 218 zL_law_784 [some (.inr (.inr (1))), some (.inr (.inr (20))), some (.inr (.inr (280))), some (.inl (i))] [] m Q := by
  refine r_aload_n rfl ?_
  refine r_aload_n rfl ?_
  refine r_iload_n rfl ?_
  refine r_iconst ?_
  first | refine r_iadd (az_wid (by omega) (by omega)) ?_ | refine r_iaddw ?_
  refine r_sld rfl (by omega) (by omega) ?_
  refine r_aload_n rfl ?_
  refine r_iload_n rfl ?_
  refine r_iconst ?_
  first | refine r_iadd (az_wid (by omega) (by omega)) ?_ | refine r_iaddw ?_
  refine r_sld rfl (by omega) (by omega) ?_
  refine r_aload_n rfl ?_
  refine r_iload_n rfl ?_
  refine r_iconst ?_
  first | refine r_iadd (az_wid (by omega) (by omega)) ?_ | refine r_iaddw ?_
  refine r_sld rfl (by omega) (by omega) ?_
  refine r_aload_n rfl ?_
  refine r_iload_n rfl ?_
  refine r_iconst ?_
  first | refine r_iadd (az_wid (by omega) (by omega)) ?_ | refine r_iaddw ?_
  refine r_sld rfl (by omega) (by omega) ?_
  refine r_cV5 g_19 rfl (Nat.le_of_ble_eq_true rfl) (Nat.le_of_ble_eq_true rfl) (st_pact hI _ _ _ _) (fun v_805 m_805 hq_805 => ?_)
  obtain ⟨x, rfl, h8⟩ := hq_805
  refine r_aload_n rfl ?_
  refine r_aload_n rfl ?_
  refine r_iload_n rfl ?_
  refine r_iconst ?_
  first | refine r_iadd (az_wid (by omega) (by omega)) ?_ | refine r_iaddw ?_
  refine r_sld rfl (by omega) (by omega) ?_
  refine r_aload_n rfl ?_
  refine r_iload_n rfl ?_
  refine r_iconst ?_
  first | refine r_iadd (az_wid (by omega) (by omega)) ?_ | refine r_iaddw ?_
  refine r_sld rfl (by omega) (by omega) ?_
  refine r_aload_n rfl ?_
  refine r_iload_n rfl ?_
  refine r_iconst ?_
  first | refine r_iadd (az_wid (by omega) (by omega)) ?_ | refine r_iaddw ?_
  refine r_sld rfl (by omega) (by omega) ?_
  refine r_aload_n rfl ?_
  refine r_iload_n rfl ?_
  refine r_iconst ?_
  first | refine r_iadd (az_wid (by omega) (by omega)) ?_ | refine r_iaddw ?_
  refine r_sld rfl (by omega) (by omega) ?_
  refine r_cV5 g_279 rfl (Nat.le_of_ble_eq_true rfl) (Nat.le_of_ble_eq_true rfl) (h8) (fun v_829 m_829 hq_829 => ?_)
  obtain ⟨rfl, hI2⟩ := hq_829
  refine r_icmp_eq kL_law_1206 (fun c1 => ?_) (fun c1 => absurd c1 (fun q => q rfl))
  refine r_iinc rfl (az_wid (by omega) (by omega)) rfl ?_
  refine r_goto kL_law_18 ?_
  exact K _ hI2
theorem lw_alone {i : Int} (hi : 0 ≤ i ∧ i + 6 ≤ (L : Int)) (hL : L ≤ 3072) (hI : iA m) (hx : ∀ j, -2147483648 ≤ xs j ∧ xs j < 2147483648) (K : ∀ m', iA m' → az_E (some (L, xs)) az_G 218 zL_law_18 [some (.inr (.inr (1))), some (.inr (.inr (20))), some (.inr (.inr (280))), some (.inl (i + 6))] [] m' Q) : az_E (some (L, xs)) az_G 218 zL_law_837 [some (.inr (.inr (1))), some (.inr (.inr (20))), some (.inr (.inr (280))), some (.inl (i))] [] m Q := by
  refine r_aload_n rfl ?_
  refine r_aload_n rfl ?_
  refine r_iload_n rfl ?_
  refine r_iconst ?_
  first | refine r_iadd (az_wid (by omega) (by omega)) ?_ | refine r_iaddw ?_
  refine r_sld rfl (by omega) (by omega) ?_
  refine r_aload_n rfl ?_
  refine r_iload_n rfl ?_
  refine r_iconst ?_
  first | refine r_iadd (az_wid (by omega) (by omega)) ?_ | refine r_iaddw ?_
  refine r_sld rfl (by omega) (by omega) ?_
  refine r_aload_n rfl ?_
  refine r_iload_n rfl ?_
  refine r_iconst ?_
  first | refine r_iadd (az_wid (by omega) (by omega)) ?_ | refine r_iaddw ?_
  refine r_sld rfl (by omega) (by omega) ?_
  refine r_cV4 g_19 rfl (Nat.le_of_ble_eq_true rfl) (Nat.le_of_ble_eq_true rfl) (st_alone hI _ _ _) (fun v_853 m_853 hq_853 => ?_)
  obtain ⟨x, rfl, h8⟩ := hq_853
  refine r_aload_n rfl ?_
  refine r_aload_n rfl ?_
  refine r_iload_n rfl ?_
  refine r_iconst ?_
  first | refine r_iadd (az_wid (by omega) (by omega)) ?_ | refine r_iaddw ?_
  refine r_sld rfl (by omega) (by omega) ?_
  refine r_aload_n rfl ?_
  refine r_iload_n rfl ?_
  refine r_iconst ?_
  first | refine r_iadd (az_wid (by omega) (by omega)) ?_ | refine r_iaddw ?_
  refine r_sld rfl (by omega) (by omega) ?_
  refine r_aload_n rfl ?_
  refine r_iload_n rfl ?_
  refine r_iconst ?_
  first | refine r_iadd (az_wid (by omega) (by omega)) ?_ | refine r_iaddw ?_
  refine r_sld rfl (by omega) (by omega) ?_
  refine r_cV4 g_279 rfl (Nat.le_of_ble_eq_true rfl) (Nat.le_of_ble_eq_true rfl) (h8) (fun v_872 m_872 hq_872 => ?_)
  obtain ⟨rfl, hI2⟩ := hq_872
  refine r_icmp_eq kL_law_1206 (fun c1 => ?_) (fun c1 => absurd c1 (fun q => q rfl))
  refine r_iinc rfl (az_wid (by omega) (by omega)) rfl ?_
  refine r_goto kL_law_18 ?_
  exact K _ hI2
theorem lw_explained {i : Int} (hi : 0 ≤ i ∧ i + 6 ≤ (L : Int)) (hL : L ≤ 3072) (hI : iA m) (hx : ∀ j, -2147483648 ≤ xs j ∧ xs j < 2147483648) (K : ∀ m', iA m' → az_E (some (L, xs)) az_G 218 zL_law_18 [some (.inr (.inr (1))), some (.inr (.inr (20))), some (.inr (.inr (280))), some (.inl (i + 6))] [] m' Q) : az_E (some (L, xs)) az_G 218 zL_law_880 [some (.inr (.inr (1))), some (.inr (.inr (20))), some (.inr (.inr (280))), some (.inl (i))] [] m Q := by
  refine r_aload_n rfl ?_
  refine r_aload_n rfl ?_
  refine r_iload_n rfl ?_
  refine r_iconst ?_
  first | refine r_iadd (az_wid (by omega) (by omega)) ?_ | refine r_iaddw ?_
  refine r_sld rfl (by omega) (by omega) ?_
  refine r_aload_n rfl ?_
  refine r_iload_n rfl ?_
  refine r_iconst ?_
  first | refine r_iadd (az_wid (by omega) (by omega)) ?_ | refine r_iaddw ?_
  refine r_sld rfl (by omega) (by omega) ?_
  refine r_cV3 g_19 rfl (Nat.le_of_ble_eq_true rfl) (Nat.le_of_ble_eq_true rfl) (st_explained hI _ _) (fun v_891 m_891 hq_891 => ?_)
  obtain ⟨x, rfl, h8⟩ := hq_891
  refine r_aload_n rfl ?_
  refine r_aload_n rfl ?_
  refine r_iload_n rfl ?_
  refine r_iconst ?_
  first | refine r_iadd (az_wid (by omega) (by omega)) ?_ | refine r_iaddw ?_
  refine r_sld rfl (by omega) (by omega) ?_
  refine r_aload_n rfl ?_
  refine r_iload_n rfl ?_
  refine r_iconst ?_
  first | refine r_iadd (az_wid (by omega) (by omega)) ?_ | refine r_iaddw ?_
  refine r_sld rfl (by omega) (by omega) ?_
  refine r_cV3 g_279 rfl (Nat.le_of_ble_eq_true rfl) (Nat.le_of_ble_eq_true rfl) (h8) (fun v_905 m_905 hq_905 => ?_)
  obtain ⟨rfl, hI2⟩ := hq_905
  refine r_icmp_eq kL_law_1206 (fun c1 => ?_) (fun c1 => absurd c1 (fun q => q rfl))
  refine r_iinc rfl (az_wid (by omega) (by omega)) rfl ?_
  refine r_goto kL_law_18 ?_
  exact K _ hI2
theorem lw_laws {i : Int} (hi : 0 ≤ i ∧ i + 6 ≤ (L : Int)) (hL : L ≤ 3072) (hI : iA m) (hx : ∀ j, -2147483648 ≤ xs j ∧ xs j < 2147483648) (K : ∀ m', iA m' → az_E (some (L, xs)) az_G 218 zL_law_18 [some (.inr (.inr (1))), some (.inr (.inr (20))), some (.inr (.inr (280))), some (.inl (i + 6))] [] m' Q) : az_E (some (L, xs)) az_G 218 zL_law_913 [some (.inr (.inr (1))), some (.inr (.inr (20))), some (.inr (.inr (280))), some (.inl (i))] [] m Q := by
  refine r_aload_n rfl ?_
  refine r_aload_n rfl ?_
  refine r_iload_n rfl ?_
  refine r_iconst ?_
  first | refine r_iadd (az_wid (by omega) (by omega)) ?_ | refine r_iaddw ?_
  refine r_sld rfl (by omega) (by omega) ?_
  refine r_aload_n rfl ?_
  refine r_iload_n rfl ?_
  refine r_iconst ?_
  first | refine r_iadd (az_wid (by omega) (by omega)) ?_ | refine r_iaddw ?_
  refine r_sld rfl (by omega) (by omega) ?_
  refine r_cV3 g_19 rfl (Nat.le_of_ble_eq_true rfl) (Nat.le_of_ble_eq_true rfl) (st_laws hI _ _) (fun v_924 m_924 hq_924 => ?_)
  obtain ⟨x, rfl, h8⟩ := hq_924
  refine r_aload_n rfl ?_
  refine r_aload_n rfl ?_
  refine r_iload_n rfl ?_
  refine r_iconst ?_
  first | refine r_iadd (az_wid (by omega) (by omega)) ?_ | refine r_iaddw ?_
  refine r_sld rfl (by omega) (by omega) ?_
  refine r_aload_n rfl ?_
  refine r_iload_n rfl ?_
  refine r_iconst ?_
  first | refine r_iadd (az_wid (by omega) (by omega)) ?_ | refine r_iaddw ?_
  refine r_sld rfl (by omega) (by omega) ?_
  refine r_cV3 g_279 rfl (Nat.le_of_ble_eq_true rfl) (Nat.le_of_ble_eq_true rfl) (h8) (fun v_938 m_938 hq_938 => ?_)
  obtain ⟨rfl, hI2⟩ := hq_938
  refine r_icmp_eq kL_law_1206 (fun c1 => ?_) (fun c1 => absurd c1 (fun q => q rfl))
  refine r_iinc rfl (az_wid (by omega) (by omega)) rfl ?_
  refine r_goto kL_law_18 ?_
  exact K _ hI2
theorem lw_owner {i : Int} (hi : 0 ≤ i ∧ i + 6 ≤ (L : Int)) (hL : L ≤ 3072) (hI : iA m) (hx : ∀ j, -2147483648 ≤ xs j ∧ xs j < 2147483648) (K : ∀ m', iA m' → az_E (some (L, xs)) az_G 218 zL_law_18 [some (.inr (.inr (1))), some (.inr (.inr (20))), some (.inr (.inr (280))), some (.inl (i + 6))] [] m' Q) : az_E (some (L, xs)) az_G 218 zL_law_946 [some (.inr (.inr (1))), some (.inr (.inr (20))), some (.inr (.inr (280))), some (.inl (i))] [] m Q := by
  refine r_aload_n rfl ?_
  refine r_aload_n rfl ?_
  refine r_iload_n rfl ?_
  refine r_iconst ?_
  first | refine r_iadd (az_wid (by omega) (by omega)) ?_ | refine r_iaddw ?_
  refine r_sld rfl (by omega) (by omega) ?_
  refine r_aload_n rfl ?_
  refine r_iload_n rfl ?_
  refine r_iconst ?_
  first | refine r_iadd (az_wid (by omega) (by omega)) ?_ | refine r_iaddw ?_
  refine r_sld rfl (by omega) (by omega) ?_
  refine r_cV3 g_19 rfl (Nat.le_of_ble_eq_true rfl) (Nat.le_of_ble_eq_true rfl) (st_owner hI _ _) (fun v_957 m_957 hq_957 => ?_)
  obtain ⟨x, rfl, h8⟩ := hq_957
  refine r_aload_n rfl ?_
  refine r_aload_n rfl ?_
  refine r_iload_n rfl ?_
  refine r_iconst ?_
  first | refine r_iadd (az_wid (by omega) (by omega)) ?_ | refine r_iaddw ?_
  refine r_sld rfl (by omega) (by omega) ?_
  refine r_aload_n rfl ?_
  refine r_iload_n rfl ?_
  refine r_iconst ?_
  first | refine r_iadd (az_wid (by omega) (by omega)) ?_ | refine r_iaddw ?_
  refine r_sld rfl (by omega) (by omega) ?_
  refine r_cV3 g_279 rfl (Nat.le_of_ble_eq_true rfl) (Nat.le_of_ble_eq_true rfl) (h8) (fun v_971 m_971 hq_971 => ?_)
  obtain ⟨rfl, hI2⟩ := hq_971
  refine r_icmp_eq kL_law_1206 (fun c1 => ?_) (fun c1 => absurd c1 (fun q => q rfl))
  refine r_iinc rfl (az_wid (by omega) (by omega)) rfl ?_
  refine r_goto kL_law_18 ?_
  exact K _ hI2
theorem lw_owes {i : Int} (hi : 0 ≤ i ∧ i + 6 ≤ (L : Int)) (hL : L ≤ 3072) (hI : iA m) (hx : ∀ j, -2147483648 ≤ xs j ∧ xs j < 2147483648) (K : ∀ m', iA m' → az_E (some (L, xs)) az_G 218 zL_law_18 [some (.inr (.inr (1))), some (.inr (.inr (20))), some (.inr (.inr (280))), some (.inl (i + 6))] [] m' Q) : az_E (some (L, xs)) az_G 218 zL_law_979 [some (.inr (.inr (1))), some (.inr (.inr (20))), some (.inr (.inr (280))), some (.inl (i))] [] m Q := by
  refine r_aload_n rfl ?_
  refine r_aload_n rfl ?_
  refine r_iload_n rfl ?_
  refine r_iconst ?_
  first | refine r_iadd (az_wid (by omega) (by omega)) ?_ | refine r_iaddw ?_
  refine r_sld rfl (by omega) (by omega) ?_
  refine r_aload_n rfl ?_
  refine r_iload_n rfl ?_
  refine r_iconst ?_
  first | refine r_iadd (az_wid (by omega) (by omega)) ?_ | refine r_iaddw ?_
  refine r_sld rfl (by omega) (by omega) ?_
  refine r_cV3 g_19 rfl (Nat.le_of_ble_eq_true rfl) (Nat.le_of_ble_eq_true rfl) (st_owes hI _ _) (fun v_990 m_990 hq_990 => ?_)
  obtain ⟨x, rfl, h8⟩ := hq_990
  refine r_aload_n rfl ?_
  refine r_aload_n rfl ?_
  refine r_iload_n rfl ?_
  refine r_iconst ?_
  first | refine r_iadd (az_wid (by omega) (by omega)) ?_ | refine r_iaddw ?_
  refine r_sld rfl (by omega) (by omega) ?_
  refine r_aload_n rfl ?_
  refine r_iload_n rfl ?_
  refine r_iconst ?_
  first | refine r_iadd (az_wid (by omega) (by omega)) ?_ | refine r_iaddw ?_
  refine r_sld rfl (by omega) (by omega) ?_
  refine r_cV3 g_279 rfl (Nat.le_of_ble_eq_true rfl) (Nat.le_of_ble_eq_true rfl) (h8) (fun v_1004 m_1004 hq_1004 => ?_)
  obtain ⟨rfl, hI2⟩ := hq_1004
  refine r_icmp_eq kL_law_1206 (fun c1 => ?_) (fun c1 => absurd c1 (fun q => q rfl))
  refine r_iinc rfl (az_wid (by omega) (by omega)) rfl ?_
  refine r_goto kL_law_18 ?_
  exact K _ hI2
theorem lw_image {i : Int} (hi : 0 ≤ i ∧ i + 6 ≤ (L : Int)) (hL : L ≤ 3072) (hI : iA m) (hx : ∀ j, -2147483648 ≤ xs j ∧ xs j < 2147483648) (K : ∀ m', iA m' → az_E (some (L, xs)) az_G 218 zL_law_18 [some (.inr (.inr (1))), some (.inr (.inr (20))), some (.inr (.inr (280))), some (.inl (i + 6))] [] m' Q) : az_E (some (L, xs)) az_G 218 zL_law_1012 [some (.inr (.inr (1))), some (.inr (.inr (20))), some (.inr (.inr (280))), some (.inl (i))] [] m Q := by
  refine r_aload_n rfl ?_
  refine r_aload_n rfl ?_
  refine r_iload_n rfl ?_
  refine r_iconst ?_
  first | refine r_iadd (az_wid (by omega) (by omega)) ?_ | refine r_iaddw ?_
  refine r_sld rfl (by omega) (by omega) ?_
  refine r_cV2 g_19 rfl (Nat.le_of_ble_eq_true rfl) (Nat.le_of_ble_eq_true rfl) (st_image hI _) (fun v_1018 m_1018 hq_1018 => ?_)
  obtain ⟨x, rfl, h8⟩ := hq_1018
  refine r_aload_n rfl ?_
  refine r_aload_n rfl ?_
  refine r_iload_n rfl ?_
  refine r_iconst ?_
  first | refine r_iadd (az_wid (by omega) (by omega)) ?_ | refine r_iaddw ?_
  refine r_sld rfl (by omega) (by omega) ?_
  refine r_cV2 g_279 rfl (Nat.le_of_ble_eq_true rfl) (Nat.le_of_ble_eq_true rfl) (h8) (fun v_1027 m_1027 hq_1027 => ?_)
  obtain ⟨rfl, hI2⟩ := hq_1027
  refine r_icmp_eq kL_law_1206 (fun c1 => ?_) (fun c1 => absurd c1 (fun q => q rfl))
  refine r_iinc rfl (az_wid (by omega) (by omega)) rfl ?_
  refine r_goto kL_law_18 ?_
  exact K _ hI2
theorem lw_restore {i : Int} (hi : 0 ≤ i ∧ i + 6 ≤ (L : Int)) (hL : L ≤ 3072) (hI : iA m) (hx : ∀ j, -2147483648 ≤ xs j ∧ xs j < 2147483648) (K : ∀ m', iA m' → az_E (some (L, xs)) az_G 218 zL_law_18 [some (.inr (.inr (1))), some (.inr (.inr (20))), some (.inr (.inr (280))), some (.inl (i + 6))] [] m' Q) : az_E (some (L, xs)) az_G 218 zL_law_1035 [some (.inr (.inr (1))), some (.inr (.inr (20))), some (.inr (.inr (280))), some (.inl (i))] [] m Q := by
  refine r_aload_n rfl ?_
  refine r_aload_n rfl ?_
  refine r_iload_n rfl ?_
  refine r_iconst ?_
  first | refine r_iadd (az_wid (by omega) (by omega)) ?_ | refine r_iaddw ?_
  refine r_sld rfl (by omega) (by omega) ?_
  refine r_cV2 g_19 rfl (Nat.le_of_ble_eq_true rfl) (Nat.le_of_ble_eq_true rfl) (st_restore hI _) (fun v_1041 m_1041 hq_1041 => ?_)
  obtain ⟨x, rfl, h8⟩ := hq_1041
  refine r_aload_n rfl ?_
  refine r_aload_n rfl ?_
  refine r_iload_n rfl ?_
  refine r_iconst ?_
  first | refine r_iadd (az_wid (by omega) (by omega)) ?_ | refine r_iaddw ?_
  refine r_sld rfl (by omega) (by omega) ?_
  refine r_cV2 g_279 rfl (Nat.le_of_ble_eq_true rfl) (Nat.le_of_ble_eq_true rfl) (h8) (fun v_1050 m_1050 hq_1050 => ?_)
  obtain ⟨rfl, hI2⟩ := hq_1050
  refine r_icmp_eq kL_law_1206 (fun c1 => ?_) (fun c1 => absurd c1 (fun q => q rfl))
  refine r_iinc rfl (az_wid (by omega) (by omega)) rfl ?_
  refine r_goto kL_law_18 ?_
  exact K _ hI2
theorem lw_kind {i : Int} (hi : 0 ≤ i ∧ i + 6 ≤ (L : Int)) (hL : L ≤ 3072) (hI : iA m) (hx : ∀ j, -2147483648 ≤ xs j ∧ xs j < 2147483648) (K : ∀ m', iA m' → az_E (some (L, xs)) az_G 218 zL_law_18 [some (.inr (.inr (1))), some (.inr (.inr (20))), some (.inr (.inr (280))), some (.inl (i + 6))] [] m' Q) : az_E (some (L, xs)) az_G 218 zL_law_1058 [some (.inr (.inr (1))), some (.inr (.inr (20))), some (.inr (.inr (280))), some (.inl (i))] [] m Q := by
  refine r_aload_n rfl ?_
  refine r_aload_n rfl ?_
  refine r_iload_n rfl ?_
  refine r_iconst ?_
  first | refine r_iadd (az_wid (by omega) (by omega)) ?_ | refine r_iaddw ?_
  refine r_sld rfl (by omega) (by omega) ?_
  refine r_cV2 g_19 rfl (Nat.le_of_ble_eq_true rfl) (Nat.le_of_ble_eq_true rfl) (st_kind hI _) (fun v_1064 m_1064 hq_1064 => ?_)
  obtain ⟨x, rfl, h8⟩ := hq_1064
  refine r_aload_n rfl ?_
  refine r_aload_n rfl ?_
  refine r_iload_n rfl ?_
  refine r_iconst ?_
  first | refine r_iadd (az_wid (by omega) (by omega)) ?_ | refine r_iaddw ?_
  refine r_sld rfl (by omega) (by omega) ?_
  refine r_cV2 g_279 rfl (Nat.le_of_ble_eq_true rfl) (Nat.le_of_ble_eq_true rfl) (h8) (fun v_1073 m_1073 hq_1073 => ?_)
  obtain ⟨rfl, hI2⟩ := hq_1073
  refine r_icmp_eq kL_law_1206 (fun c1 => ?_) (fun c1 => absurd c1 (fun q => q rfl))
  refine r_iinc rfl (az_wid (by omega) (by omega)) rfl ?_
  refine r_goto kL_law_18 ?_
  exact K _ hI2
theorem lw_as {i : Int} (hi : 0 ≤ i ∧ i + 6 ≤ (L : Int)) (hL : L ≤ 3072) (hI : iA m) (hx : ∀ j, -2147483648 ≤ xs j ∧ xs j < 2147483648) (K : ∀ m', iA m' → az_E (some (L, xs)) az_G 218 zL_law_18 [some (.inr (.inr (1))), some (.inr (.inr (20))), some (.inr (.inr (280))), some (.inl (i + 6))] [] m' Q) : az_E (some (L, xs)) az_G 218 zL_law_1081 [some (.inr (.inr (1))), some (.inr (.inr (20))), some (.inr (.inr (280))), some (.inl (i))] [] m Q := by
  refine r_aload_n rfl ?_
  refine r_aload_n rfl ?_
  refine r_iload_n rfl ?_
  refine r_iconst ?_
  first | refine r_iadd (az_wid (by omega) (by omega)) ?_ | refine r_iaddw ?_
  refine r_sld rfl (by omega) (by omega) ?_
  refine r_aload_n rfl ?_
  refine r_iload_n rfl ?_
  refine r_iconst ?_
  first | refine r_iadd (az_wid (by omega) (by omega)) ?_ | refine r_iaddw ?_
  refine r_sld rfl (by omega) (by omega) ?_
  refine r_cV3 g_19 rfl (Nat.le_of_ble_eq_true rfl) (Nat.le_of_ble_eq_true rfl) (st_as hI _ _) (fun v_1092 m_1092 hq_1092 => ?_)
  obtain ⟨x, rfl, h8⟩ := hq_1092
  refine r_aload_n rfl ?_
  refine r_aload_n rfl ?_
  refine r_iload_n rfl ?_
  refine r_iconst ?_
  first | refine r_iadd (az_wid (by omega) (by omega)) ?_ | refine r_iaddw ?_
  refine r_sld rfl (by omega) (by omega) ?_
  refine r_aload_n rfl ?_
  refine r_iload_n rfl ?_
  refine r_iconst ?_
  first | refine r_iadd (az_wid (by omega) (by omega)) ?_ | refine r_iaddw ?_
  refine r_sld rfl (by omega) (by omega) ?_
  refine r_cV3 g_279 rfl (Nat.le_of_ble_eq_true rfl) (Nat.le_of_ble_eq_true rfl) (h8) (fun v_1106 m_1106 hq_1106 => ?_)
  obtain ⟨rfl, hI2⟩ := hq_1106
  refine r_icmp_eq kL_law_1206 (fun c1 => ?_) (fun c1 => absurd c1 (fun q => q rfl))
  refine r_iinc rfl (az_wid (by omega) (by omega)) rfl ?_
  refine r_goto kL_law_18 ?_
  exact K _ hI2
theorem lw_ask {i : Int} (hi : 0 ≤ i ∧ i + 6 ≤ (L : Int)) (hL : L ≤ 3072) (hI : iA m) (hx : ∀ j, -2147483648 ≤ xs j ∧ xs j < 2147483648) (K : ∀ m', iA m' → az_E (some (L, xs)) az_G 218 zL_law_18 [some (.inr (.inr (1))), some (.inr (.inr (20))), some (.inr (.inr (280))), some (.inl (i + 6))] [] m' Q) : az_E (some (L, xs)) az_G 218 zL_law_1114 [some (.inr (.inr (1))), some (.inr (.inr (20))), some (.inr (.inr (280))), some (.inl (i))] [] m Q := by
  refine r_aload_n rfl ?_
  refine r_aload_n rfl ?_
  refine r_iload_n rfl ?_
  refine r_iconst ?_
  first | refine r_iadd (az_wid (by omega) (by omega)) ?_ | refine r_iaddw ?_
  refine r_sld rfl (by omega) (by omega) ?_
  refine r_aload_n rfl ?_
  refine r_iload_n rfl ?_
  refine r_iconst ?_
  first | refine r_iadd (az_wid (by omega) (by omega)) ?_ | refine r_iaddw ?_
  refine r_sld rfl (by omega) (by omega) ?_
  refine r_cV3 g_19 rfl (Nat.le_of_ble_eq_true rfl) (Nat.le_of_ble_eq_true rfl) (st_ask hI _ _) (fun v_1125 m_1125 hq_1125 => ?_)
  obtain ⟨x, rfl, h8⟩ := hq_1125
  refine r_aload_n rfl ?_
  refine r_aload_n rfl ?_
  refine r_iload_n rfl ?_
  refine r_iconst ?_
  first | refine r_iadd (az_wid (by omega) (by omega)) ?_ | refine r_iaddw ?_
  refine r_sld rfl (by omega) (by omega) ?_
  refine r_aload_n rfl ?_
  refine r_iload_n rfl ?_
  refine r_iconst ?_
  first | refine r_iadd (az_wid (by omega) (by omega)) ?_ | refine r_iaddw ?_
  refine r_sld rfl (by omega) (by omega) ?_
  refine r_cV3 g_279 rfl (Nat.le_of_ble_eq_true rfl) (Nat.le_of_ble_eq_true rfl) (h8) (fun v_1139 m_1139 hq_1139 => ?_)
  obtain ⟨rfl, hI2⟩ := hq_1139
  refine r_icmp_eq kL_law_1206 (fun c1 => ?_) (fun c1 => absurd c1 (fun q => q rfl))
  refine r_iinc rfl (az_wid (by omega) (by omega)) rfl ?_
  refine r_goto kL_law_18 ?_
  exact K _ hI2
theorem lw_trace {i : Int} (hi : 0 ≤ i ∧ i + 6 ≤ (L : Int)) (hL : L ≤ 3072) (hI : iA m) (hx : ∀ j, -2147483648 ≤ xs j ∧ xs j < 2147483648) (K : ∀ m', iA m' → az_E (some (L, xs)) az_G 218 zL_law_18 [some (.inr (.inr (1))), some (.inr (.inr (20))), some (.inr (.inr (280))), some (.inl (i + 6))] [] m' Q) : az_E (some (L, xs)) az_G 218 zL_law_1147 [some (.inr (.inr (1))), some (.inr (.inr (20))), some (.inr (.inr (280))), some (.inl (i))] [] m Q := by
  refine r_aload_n rfl ?_
  refine r_aload_n rfl ?_
  refine r_iload_n rfl ?_
  refine r_iconst ?_
  first | refine r_iadd (az_wid (by omega) (by omega)) ?_ | refine r_iaddw ?_
  refine r_sld rfl (by omega) (by omega) ?_
  refine r_cV2 g_19 rfl (Nat.le_of_ble_eq_true rfl) (Nat.le_of_ble_eq_true rfl) (st_trace hI _) (fun v_1153 m_1153 hq_1153 => ?_)
  obtain ⟨x, rfl, h8⟩ := hq_1153
  refine r_aload_n rfl ?_
  refine r_aload_n rfl ?_
  refine r_iload_n rfl ?_
  refine r_iconst ?_
  first | refine r_iadd (az_wid (by omega) (by omega)) ?_ | refine r_iaddw ?_
  refine r_sld rfl (by omega) (by omega) ?_
  refine r_cV2 g_279 rfl (Nat.le_of_ble_eq_true rfl) (Nat.le_of_ble_eq_true rfl) (h8) (fun v_1162 m_1162 hq_1162 => ?_)
  obtain ⟨rfl, hI2⟩ := hq_1162
  refine r_icmp_eq kL_law_1206 (fun c1 => ?_) (fun c1 => absurd c1 (fun q => q rfl))
  refine r_iinc rfl (az_wid (by omega) (by omega)) rfl ?_
  refine r_goto kL_law_18 ?_
  exact K _ hI2
theorem lw_count {i : Int} (hi : 0 ≤ i ∧ i + 6 ≤ (L : Int)) (hL : L ≤ 3072) (hI : iA m) (hx : ∀ j, -2147483648 ≤ xs j ∧ xs j < 2147483648) (K : ∀ m', iA m' → az_E (some (L, xs)) az_G 218 zL_law_18 [some (.inr (.inr (1))), some (.inr (.inr (20))), some (.inr (.inr (280))), some (.inl (i + 6))] [] m' Q) : az_E (some (L, xs)) az_G 218 zL_law_1170 [some (.inr (.inr (1))), some (.inr (.inr (20))), some (.inr (.inr (280))), some (.inl (i))] [] m Q := by
  refine r_aload_n rfl ?_
  refine r_aload_n rfl ?_
  refine r_iload_n rfl ?_
  refine r_iconst ?_
  first | refine r_iadd (az_wid (by omega) (by omega)) ?_ | refine r_iaddw ?_
  refine r_sld rfl (by omega) (by omega) ?_
  refine r_cV2 g_19 rfl (Nat.le_of_ble_eq_true rfl) (Nat.le_of_ble_eq_true rfl) (st_count hI _) (fun v_1176 m_1176 hq_1176 => ?_)
  obtain ⟨x, rfl, h8⟩ := hq_1176
  refine r_aload_n rfl ?_
  refine r_aload_n rfl ?_
  refine r_iload_n rfl ?_
  refine r_iconst ?_
  first | refine r_iadd (az_wid (by omega) (by omega)) ?_ | refine r_iaddw ?_
  refine r_sld rfl (by omega) (by omega) ?_
  refine r_cV2 g_279 rfl (Nat.le_of_ble_eq_true rfl) (Nat.le_of_ble_eq_true rfl) (h8) (fun v_1185 m_1185 hq_1185 => ?_)
  obtain ⟨rfl, hI2⟩ := hq_1185
  refine r_icmp_eq kL_law_1206 (fun c1 => ?_) (fun c1 => absurd c1 (fun q => q rfl))
  refine r_iinc rfl (az_wid (by omega) (by omega)) rfl ?_
  refine r_goto kL_law_18 ?_
  exact K _ hI2
theorem lw_status {i : Int} (hi : 0 ≤ i ∧ i + 6 ≤ (L : Int)) (hL : L ≤ 3072) (hI : iA m) (hx : ∀ j, -2147483648 ≤ xs j ∧ xs j < 2147483648) (K : ∀ m', iA m' → az_E (some (L, xs)) az_G 218 zL_law_18 [some (.inr (.inr (1))), some (.inr (.inr (20))), some (.inr (.inr (280))), some (.inl (i + 6))] [] m' Q) : az_E (some (L, xs)) az_G 218 zL_law_1193 [some (.inr (.inr (1))), some (.inr (.inr (20))), some (.inr (.inr (280))), some (.inl (i))] [] m Q := by
  refine r_aload_n rfl ?_
  refine r_cV1 g_19 rfl (Nat.le_of_ble_eq_true rfl) (Nat.le_of_ble_eq_true rfl) (st_status hI) (fun v_1194 m_1194 hq_1194 => ?_)
  obtain ⟨x, rfl, h8⟩ := hq_1194
  refine r_aload_n rfl ?_
  refine r_cV1 g_279 rfl (Nat.le_of_ble_eq_true rfl) (Nat.le_of_ble_eq_true rfl) (h8) (fun v_1198 m_1198 hq_1198 => ?_)
  obtain ⟨rfl, hI2⟩ := hq_1198
  refine r_icmp_eq kL_law_1206 (fun c1 => ?_) (fun c1 => absurd c1 (fun q => q rfl))
  refine r_iinc rfl (az_wid (by omega) (by omega)) rfl ?_
  refine r_goto kL_law_18 ?_
  exact K _ hI2
theorem and_63 (x : Int) : 0 ≤ az_and x 63 ∧ az_and x 63 ≤ 63 := by
  unfold az_and
  rw [show Int32.ofInt 63 = 63 from rfl]
  obtain ⟨j, hj, e⟩ := pk_andE (Int32.ofInt x) (m := 63) 6 rfl
  rw [e]
  have h1 : (nI j).toInt = (j : Int) := by
    have h2 : (j : Int) < 64 := by
      have : (2 : Nat) ^ 6 = 64 := rfl
      omega
    show (Int32.ofNat j).toInt = _
    rw [Int32.toInt_ofNat_of_lt (by omega)]
  rw [h1]
  have : (2 : Nat) ^ 6 = 64 := rfl
  omega
theorem lw_loop (hL : L ≤ 3072) (hx : ∀ j, -2147483648 ≤ xs j ∧ xs j < 2147483648) (hQ : ∀ m', Q (some (.inl 1)) m') : ∀ (k : Nat) (i : Int) (m : aM), ((L : Int) - i).toNat ≤ k → 0 ≤ i → iA m → az_E (some (L, xs)) az_G 218 zL_law_18 [some (.inr (.inr (1))), some (.inr (.inr (20))), some (.inr (.inr (280))), some (.inl (i))] [] m Q := by
  intro k
  induction k with
  | zero =>
    intro i m hk h0 hI
    refine r_iload_n rfl ?_
    refine r_aload_n rfl ?_
    refine r_slen rfl ?_
    refine r_bipush ?_
    first | refine r_isub (az_wid (by omega) (by omega)) ?_ | refine r_isubw ?_
    refine r_icmp_gt kL_law_1212 (fun c1 => ?_) (fun c1 => absurd c1 (by omega))
    refine r_iconst ?_
    refine r_zret rfl (by omega) ?_
    exact hQ _
  | succ k ih =>
    intro i m hk h0 hI
    by_cases h6 : i + 6 ≤ (L : Int)
    · have hK : ∀ m', iA m' → az_E (some (L, xs)) az_G 218 zL_law_18 [some (.inr (.inr (1))), some (.inr (.inr (20))), some (.inr (.inr (280))), some (.inl (i + 6))] [] m' Q := fun m' h => ih (i + 6) m' (by omega) (by omega) h
      have hv := and_63 (xs i)
      refine r_iload_n rfl ?_
      refine r_aload_n rfl ?_
      refine r_slen rfl ?_
      refine r_bipush ?_
      first | refine r_isub (az_wid (by omega) (by omega)) ?_ | refine r_isubw ?_
      refine r_icmp_gt kL_law_1212 (fun c1 => absurd c1 (by omega)) (fun c1 => ?_)
      refine r_aload_n rfl ?_
      refine r_iload_n rfl ?_
      refine r_sld rfl (by omega) (by omega) ?_
      refine r_bipush ?_
      refine r_iand rfl ?_
      skip
      obtain ⟨v, hvv⟩ : ∃ v, v = az_and (xs i) 63 := ⟨_, rfl⟩
      rw [← hvv] at hv ⊢
      clear hvv
      rcases (show v = 0 ∨ v = 1 ∨ v = 2 ∨ v = 3 ∨ v = 4 ∨ v = 5 ∨ v = 6 ∨ v = 7 ∨ v = 8 ∨ v = 9 ∨ v = 10 ∨ v = 11 ∨ v = 12 ∨ v = 13 ∨ v = 14 ∨ v = 15 ∨ v = 16 ∨ v = 17 ∨ v = 18 ∨ v = 19 ∨ v = 20 ∨ v = 21 ∨ v = 22 ∨ v = 23 ∨ v = 24 ∨ v = 25 ∨ v = 26 ∨ v = 27 ∨ v = 28 ∨ v = 29 ∨ v = 30 ∨ v = 31 ∨ v = 32 ∨ v = 33 ∨ 33 < v by omega) with h | h | h | h | h | h | h | h | h | h | h | h | h | h | h | h | h | h | h | h | h | h | h | h | h | h | h | h | h | h | h | h | h | h | h
      · subst h
        exact r_tswI (by decide) rfl kL_law_184 (lw_row ⟨h0, h6⟩ hL hI hx hK)
      · subst h
        exact r_tswI (by decide) rfl kL_law_227 (lw_set ⟨h0, h6⟩ hL hI hx hK)
      · subst h
        exact r_tswI (by decide) rfl kL_law_270 (lw_copy ⟨h0, h6⟩ hL hI hx hK)
      · subst h
        exact r_tswI (by decide) rfl kL_law_333 (lw_drop ⟨h0, h6⟩ hL hI hx hK)
      · subst h
        exact r_tswI (by decide) rfl kL_law_356 (lw_feed ⟨h0, h6⟩ hL hI hx hK)
      · subst h
        exact r_tswI (by decide) rfl kL_law_419 (lw_beach ⟨h0, h6⟩ hL hI hx hK)
      · subst h
        exact r_tswI (by decide) rfl kL_law_432 (lw_fault ⟨h0, h6⟩ hL hI hx hK)
      · subst h
        exact r_tswI (by decide) rfl kL_law_445 (lw_hour ⟨h0, h6⟩ hL hI hx hK)
      · subst h
        exact r_tswI (by decide) rfl kL_law_458 (lw_leave ⟨h0, h6⟩ hL hI hx hK)
      · subst h
        exact r_tswI (by decide) rfl kL_law_481 (lw_cloud ⟨h0, h6⟩ hL hI hx hK)
      · subst h
        exact r_tswI (by decide) rfl kL_law_504 (lw_shade ⟨h0, h6⟩ hL hI hx hK)
      · subst h
        exact r_tswI (by decide) rfl kL_law_537 (lw_gift ⟨h0, h6⟩ hL hI hx hK)
      · subst h
        exact r_tswI (by decide) rfl kL_law_570 (lw_sunset ⟨h0, h6⟩ hL hI hx hK)
      · subst h
        exact r_tswI (by decide) rfl kL_law_583 (lw_undo ⟨h0, h6⟩ hL hI hx hK)
      · subst h
        exact r_tswI (by decide) rfl kL_law_596 (lw_guest ⟨h0, h6⟩ hL hI hx hK)
      · subst h
        exact r_tswI (by decide) rfl kL_law_629 (lw_price ⟨h0, h6⟩ hL hI hx hK)
      · subst h
        exact r_tswI (by decide) rfl kL_law_652 (lw_worth ⟨h0, h6⟩ hL hI hx hK)
      · subst h
        exact r_tswI (by decide) rfl kL_law_695 (lw_best ⟨h0, h6⟩ hL hI hx hK)
      · subst h
        exact r_tswI (by decide) rfl kL_law_728 (lw_rounds ⟨h0, h6⟩ hL hI hx hK)
      · subst h
        exact r_tswI (by decide) rfl kL_law_761 (lw_rests ⟨h0, h6⟩ hL hI hx hK)
      · subst h
        exact r_tswI (by decide) rfl kL_law_784 (lw_pact ⟨h0, h6⟩ hL hI hx hK)
      · subst h
        exact r_tswI (by decide) rfl kL_law_837 (lw_alone ⟨h0, h6⟩ hL hI hx hK)
      · subst h
        exact r_tswI (by decide) rfl kL_law_880 (lw_explained ⟨h0, h6⟩ hL hI hx hK)
      · subst h
        exact r_tswI (by decide) rfl kL_law_913 (lw_laws ⟨h0, h6⟩ hL hI hx hK)
      · subst h
        exact r_tswI (by decide) rfl kL_law_946 (lw_owner ⟨h0, h6⟩ hL hI hx hK)
      · subst h
        exact r_tswI (by decide) rfl kL_law_979 (lw_owes ⟨h0, h6⟩ hL hI hx hK)
      · subst h
        exact r_tswI (by decide) rfl kL_law_1012 (lw_image ⟨h0, h6⟩ hL hI hx hK)
      · subst h
        exact r_tswI (by decide) rfl kL_law_1035 (lw_restore ⟨h0, h6⟩ hL hI hx hK)
      · subst h
        exact r_tswI (by decide) rfl kL_law_1058 (lw_kind ⟨h0, h6⟩ hL hI hx hK)
      · subst h
        exact r_tswI (by decide) rfl kL_law_1081 (lw_as ⟨h0, h6⟩ hL hI hx hK)
      · subst h
        exact r_tswI (by decide) rfl kL_law_1114 (lw_ask ⟨h0, h6⟩ hL hI hx hK)
      · subst h
        exact r_tswI (by decide) rfl kL_law_1147 (lw_trace ⟨h0, h6⟩ hL hI hx hK)
      · subst h
        exact r_tswI (by decide) rfl kL_law_1170 (lw_count ⟨h0, h6⟩ hL hI hx hK)
      · subst h
        exact r_tswI (by decide) rfl kL_law_1193 (lw_status ⟨h0, h6⟩ hL hI hx hK)
      · refine r_tswO (Or.inr h) kL_law_1206 ?_
        refine r_iinc rfl (az_wid (by omega) (by omega)) rfl ?_
        refine r_goto kL_law_18 ?_
        exact hK _ hI
    · refine r_iload_n rfl ?_
      refine r_aload_n rfl ?_
      refine r_slen rfl ?_
      refine r_bipush ?_
      first | refine r_isub (az_wid (by omega) (by omega)) ?_ | refine r_isubw ?_
      refine r_icmp_gt kL_law_1212 (fun c1 => ?_) (fun c1 => absurd c1 (by omega))
      refine r_iconst ?_
      refine r_zret rfl (by omega) ?_
      exact hQ _
/-! the start -/
theorem iA_init (h : ∀ a j : Nat, a < 293 → j < (az_G.getD a (0, 0, [])).2.1 → m a (j : Int) = az_mi a (j : Int)) : iA m := by
  have z84 : ∀ j, 0 ≤ j → j < 44 → m 284 j = 0 := fun j j0 j1 => by
    have := h 284 j.toNat (by decide) (by rw [show (az_G.getD 284 (0, 0, [])).2.1 = 44 by decide +kernel]; omega)
    rw [show ((j.toNat : Nat) : Int) = j by omega] at this
    exact this
  have z22 : ∀ k : Nat, k < 16 → m 22 (k : Int) = 0 := fun k hk => h 22 k (by decide) (by rw [show (az_G.getD 22 (0, 0, [])).2.1 = 16 by decide +kernel]; exact hk)
  have z79 : ∀ k : Nat, k < 25 → m 279 (k : Int) = 0 := fun k hk => h 279 k (by decide) (by rw [show (az_G.getD 279 (0, 0, [])).2.1 = 25 by decide +kernel]; exact hk)
  have z40 : ∀ k : Nat, k < 3 → m 40 (k : Int) = 0 := fun k hk => h 40 k (by decide) (by rw [show (az_G.getD 40 (0, 0, [])).2.1 = 3 by decide +kernel]; exact hk)
  have z38 : ∀ k : Nat, k < 7 → m 38 (k : Int) = 0 := fun k hk => h 38 k (by decide) (by rw [show (az_G.getD 38 (0, 0, [])).2.1 = 7 by decide +kernel]; exact hk)
  have z2 : m 284 2 = 0 := z84 2 (by decide) (by decide)
  have e5 : m 279 5 = 0 := z79 5 (by decide)
  have e9 : m 279 9 = 0 := z79 9 (by decide)
  have e7 : m 279 7 = 0 := z79 7 (by decide)
  have e13 : m 279 13 = 0 := z79 13 (by decide)
  have hN : nOK (m 284) := by
    refine ⟨?_, ?_, ?_, ?_, ?_, ?_, fun h h0 h1 => ?_, fun g g0 g1 => ?_⟩
    · rw [z84 0 (by decide) (by decide)]; decide
    · rw [z84 1 (by decide) (by decide)]; decide
    · rw [z2]; decide
    · rw [z84 3 (by decide) (by decide)]; decide
    · rw [z84 4 (by decide) (by decide)]; decide
    · rw [z84 5 (by decide) (by decide)]; decide
    · rw [z84 (6 + h) (by omega) (by omega)]; decide
    · rw [z2] at g1; omega
  refine ⟨⟨⟨⟨?_, ?_, ?_, ?_, ?_, ?_, ?_, ?_⟩, fun k k0 k1 => ?_, fun g g0 g1 => by rw [z2] at g1; omega⟩, hN, ?_, Or.inl e7, fun q => by rw [z2] at q; omega⟩, ⟨?_, ⟨?_, ?_⟩, fun q => by rw [e9] at q; omega, fun k k0 k1 => by rw [e9] at k1; omega⟩, fun k k0 k1 => Or.inl ⟨?_, ?_⟩, ⟨fun r r0 r1 => ?_, fun r r0 r1 => ?_⟩, ?_, ⟨?_, by rw [e5]; decide, fun x x0 x1 => by rw [e5] at x1; omega, ?_⟩, ⟨?_, by rw [e13]; decide, fun x x0 x1 => by rw [e13] at x1; omega⟩, fun a a0 a1 j j0 => ?_⟩
  · rw [z84 0 (by decide) (by decide)]; exact z22 8 (by decide)
  · rw [z84 1 (by decide) (by decide)]; exact z22 9 (by decide)
  · rw [z2]; exact z22 10 (by decide)
  · rw [z84 4 (by decide) (by decide)]; exact z22 11 (by decide)
  · rw [z84 3 (by decide) (by decide)]; exact z22 12 (by decide)
  · rw [z84 5 (by decide) (by decide)]; exact z22 15 (by decide)
  · rw [show pThB (m 284) = 0 from (mask_0 (q01_th hN) (by rw [z2]; decide)).mpr (fun g g0 g1 => by rw [z2] at g1; omega)]; exact z22 13 (by decide)
  · rw [show pShB (m 284) = 0 from (mask_0 (q01_sh hN) (by rw [z2]; decide)).mpr (fun g g0 g1 => by rw [z2] at g1; omega)]; exact z22 14 (by decide)
  · rw [z84 (6 + k) (by omega) (by omega)]
    have := h 23 k.toNat (by decide) (by rw [show (az_G.getD 23 (0, 0, [])).2.1 = 6 by decide +kernel]; omega)
    rw [show ((k.toNat : Nat) : Int) = k by omega] at this
    exact this
  · rw [e7]; exact z22 7 (by decide)
  · rw [e9]; exact z40 2 (by decide)
  · rw [show m 40 1 = 0 from z40 1 (by decide)]; decide
  · rw [show m 40 2 = 0 from z40 2 (by decide)]; decide
  · rcases (show k = 0 ∨ k = 1 by omega) with rfl | rfl
    · exact h 287 0 (by decide) (by decide +kernel)
    · exact h 287 1 (by decide) (by decide +kernel)
  · rcases (show k = 0 ∨ k = 1 by omega) with rfl | rfl
    · exact h 263 7 (by decide) (by decide +kernel)
    · exact h 271 7 (by decide) (by decide +kernel)
  · have a1 := h 281 r.toNat (by decide) (by rw [show (az_G.getD 281 (0, 0, [])).2.1 = 8 by decide +kernel]; omega)
    have a2 := h 280 r.toNat (by decide) (by rw [show (az_G.getD 280 (0, 0, [])).2.1 = 8 by decide +kernel]; omega)
    rw [show ((r.toNat : Nat) : Int) = r by omega] at a1 a2
    have a1 : m 281 r = -1 := a1
    have a2 : m 280 r = 0 := a2
    rw [a1, a2]
    decide
  · have a1 := h 281 r.toNat (by decide) (by rw [show (az_G.getD 281 (0, 0, [])).2.1 = 8 by decide +kernel]; omega)
    rw [show ((r.toNat : Nat) : Int) = r by omega] at a1
    have a1 : m 281 r = -1 := a1
    have a3 : m (rb r) 1 = -1 := by
      rcases (show r = 0 ∨ r = 1 ∨ r = 2 ∨ r = 3 ∨ r = 4 ∨ r = 5 ∨ r = 6 ∨ r = 7 by omega) with rfl | rfl | rfl | rfl | rfl | rfl | rfl | rfl
      · exact h 247 1 (by decide) (by decide +kernel)
      · exact h 249 1 (by decide) (by decide +kernel)
      · exact h 251 1 (by decide) (by decide +kernel)
      · exact h 253 1 (by decide) (by decide +kernel)
      · exact h 255 1 (by decide) (by decide +kernel)
      · exact h 257 1 (by decide) (by decide +kernel)
      · exact h 259 1 (by decide) (by decide +kernel)
      · exact h 261 1 (by decide) (by decide +kernel)
    unfold rowP
    rw [a1, a3]
    exact ⟨by decide, fun q => absurd q (by decide)⟩
  · rw [show m 279 3 = 0 from z79 3 (by decide)]
    exact h 19 9 (by decide) (by decide +kernel)
  · rw [e5]; exact z38 1 (by decide)
  · rw [show m 279 6 = 0 from z79 6 (by decide)]; exact z38 6 (by decide)
  · rw [e13]; exact h 245 1 (by decide) (by decide +kernel)
  · rw [h a j (by omega) j0]
    unfold az_mi
    rw [if_pos a1]
end LW
