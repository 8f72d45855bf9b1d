set_option maxHeartbeats 4000000 in
set_option maxRecDepth 100000 in
/-- HatbandYard() -/
theorem c_YardInit (l : Launch) (D : va_G) (cA : Nat → ClassId) (ga : Nat → Nat → Nat) (φ : hpM) (sz : Nat) (y : Nat) (f0 : φ y = some (.inr (12, [.null, .null, .null, .null, .null, .null, .int (nI 0), .int (nI 0), .int (nI 0), .int (nI 0), .int (nI 0)]))) : hM l yX8_init cX8_init 1 none { frames := 10, cells := 8, slots := 90, locals := 320 } [.ref y] D cA ga φ sz (fun v φ' => v = none ∧ ∃ sb bq la ca ha ba hd rq : Nat, φ' y = some (.inr (12, [.ref sb, .ref la, .ref ca, .ref ha, .ref ba, .ref hd, .int (nI 0), .int (nI 0), .int (nI 0), .int (nI 0), .int (nI 0)])) ∧ φ' sb = some (.inr (1, [.ref bq, .int (nI 0), .int (nI 0), .int (nI 0)])) ∧ φ' bq = some (.inl (cA 0, 16, .inl (fun j => nI (zr j)))) ∧ φ' la = some (.inl (cA 7, 10, .inr (.inr (.inr (.inr (fun _ => none)))))) ∧ φ' ca = some (.inl (cA 5, 12, .inr (.inr (.inr (.inr (fun _ => none)))))) ∧ φ' ha = some (.inl (cA 6, 6, .inr (.inr (.inr (.inr (fun _ => none)))))) ∧ φ' ba = some (.inl (cA 4, 8, .inr (.inr (.inr (.inr (fun _ => none)))))) ∧ φ' hd = some (.inr (9, [.ref rq])) ∧ φ' rq = some (.inl (cA 1, 8, .inl (fun j => nI (zr j))))) 8 90 := by
  refine hM.of (by decide) (Nat.le_of_ble_eq_true rfl) rfl ?_
  intro p e s m args below meth c ls H locs S hr hlocks hnm hsz hHz hH hK hX hS hA hl
  refine lv_aload_n (pc := 0) S.1 S.2.1 dX8_init_0 rfl (lv_at hl 0 rfl) ?_
  refine W.objInit S.1 S.2.1 S.2.2.2.1 (S.2.2.2.2 _ tw_33) (S.2.2.2.2 _ tw_34) (S.2.2.2.2 _ tw_35) rfl (by rw [S.2.2.1]; exact hl.1) rfl dX8_init_1 (Nat.le_of_ble_eq_true rfl) (Nat.le_of_ble_eq_true rfl) ?_
  refine W.eq (g2 := F0 m 4 ls []) rfl ?_
  refine lv_aload_n (pc := 4) S.1 S.2.1 dX8_init_4 rfl (lv_at hl 0 rfl) ?_
  refine hv_new (pc := 5) (ci := 1) (fs := [.null, .int (nI 0), .int (nI 0), .int (nI 0)]) (C := RJ4) (T := TJ4) (N := 4) S uwJ4 tyJ4 tyJ4_ok tw_36 tw_37 tw_3 hK hH hS hA rfl (fun j hj => by rcases (show j = 0 ∨ j = 1 ∨ j = 2 ∨ j = 3 by omega) with rfl | rfl | rfl | rfl <;> rfl) (Nat.le_of_ble_eq_true rfl) (Nat.le_of_ble_eq_true rfl) dX8_init_5 (fun q_1 H hq_q_1 hH hS => ?_)
  replace hH := nup (e := .inr (1, [.null, .int (nI 0), .int (nI 0), .int (nI 0)])) hH
  obtain ⟨φ_2, hφ_2, fa_φ_2, fr_φ_2, hH⟩ := hH
  have f_3 := fr_φ_2 _ _ (hp_nf f0 hq_q_1) f0
  refine lv_dup (pc := 8) S.1 S.2.1 dX8_init_8 rfl ?_
  refine hv_call (pc := 9) (va_runI (As := []) (rest := [.ref q_1, .ref y]) S (c_SBInit l D cA ga φ_2 H.size q_1 fa_φ_2) (cwI 0 S.2.2.2.2 (gw tw_40) rfl rfl rfl (S.2.2.2.2 _ tw_3) (S.2.2.2.2 _ tw_38) (S.2.2.2.2 _ tw_39) rfl (by decide +kernel) ⟨Nat.le_of_ble_eq_true rfl, Nat.le_of_ble_eq_true rfl⟩) (pre0_S hH hK hX hS hA) rfl rfl hl.1 rfl (lv_room (Nat.le_of_ble_eq_true rfl)) dX8_init_9 ⟨Nat.le_of_ble_eq_true rfl, Nat.le_of_ble_eq_true rfl⟩) hS (af_le hH hS hA) (fun v_4 φ_5 H locs hw_v_4 hH hS => ?_)
  obtain ⟨rfl, bq, hbq, hp9⟩ := hw_v_4
  rw [hp9] at hH
  obtain ⟨φ_6, hφ_6⟩ : ∃ z : hpM, z = ups φ_2 bq (.inl (cA 0, 16, .inl (fun j => nI (zr j)))) := ⟨_, rfl⟩
  rw [← hφ_6] at hH
  have f_7 : φ_6 y = some (.inr (12, [.null, .null, .null, .null, .null, .null, .int (nI 0), .int (nI 0), .int (nI 0), .int (nI 0), .int (nI 0)])) := by rw [hφ_6]; exact ups_n (hp_nf f_3 hbq) f_3
  have f_8 : φ_6 q_1 = some (.inr (1, [.null, .int (nI 0), .int (nI 0), .int (nI 0)])) := by rw [hφ_6]; exact ups_n (hp_nf fa_φ_2 hbq) fa_φ_2
  have f_9 : φ_6 bq = some (.inl (cA 0, 16, .inl (fun j => nI (zr j)))) := by rw [hφ_6]; exact ups_s _ _ _
  replace hH := nup (e := .inr (1, [.ref bq, .int (nI 0), .int (nI 0), .int (nI 0)])) hH
  obtain ⟨φ_10, hφ_10, fa_φ_10, fr_φ_10, hH⟩ := hH
  have f_11 := fr_φ_10 _ _ (hp_ne f_7 f_8 (by intro h; first | (cases h; done) | (simp at h; done))) f_7
  have f_12 := fr_φ_10 _ _ (hp_ne f_9 f_8 (by intro h; first | (cases h; done) | (simp at h; done))) f_9
  refine hv_putF (pc := 12) (ty := .object "java/lang/StringBuilder") (C := RX8) (T := TX8) (N := 11) (ref := RX8) S uwX8 tyX8 tyX8_ok nmX8 hK hH hS f_11 rfl 0 (by decide) tw_88 (fun _ h9 => h9) rfl hnm rfl (by decide +kernel) rfl rfl (Nat.le_of_ble_eq_true rfl) dX8_init_12 (fun H locs hH hS => ?_)
  replace hH := nup (e := .inr (12, [.ref q_1, .null, .null, .null, .null, .null, .int (nI 0), .int (nI 0), .int (nI 0), .int (nI 0), .int (nI 0)])) hH
  obtain ⟨φ_13, hφ_13, fa_φ_13, fr_φ_13, hH⟩ := hH
  have f_14 := fr_φ_13 _ _ (hp_ne f_12 f_11 (by intro h; first | (cases h; done) | (simp at h; done))) f_12
  have f_15 := fr_φ_13 _ _ (hp_ne fa_φ_10 f_11 (by intro h; first | (cases h; done) | (simp at h; done))) fa_φ_10
  refine lv_aload_n (pc := 15) S.1 S.2.1 dX8_init_15 rfl (lv_at hl 0 rfl) ?_
  refine lv_bipush (pc := 16) (v := nI 10) S.1 S.2.1 dX8_init_16 (by decide) ?_
  refine hv_newq (pc := 18) (N' := 10) S tw_69 hX.ao6 hK 7 rfl hH hS hA (by decide) (by decide) (Nat.le_of_ble_eq_true rfl) (Nat.le_of_ble_eq_true rfl) (Nat.le_of_ble_eq_true rfl) dX8_init_18 (fun q_16 H hq_q_16 hH hS => ?_)
  replace hH := nup (e := .inl (cA 7, 10, .inr (.inr (.inr (.inr (fun _ => none)))))) hH
  obtain ⟨φ_17, hφ_17, fa_φ_17, fr_φ_17, hH⟩ := hH
  have f_18 := fr_φ_17 _ _ (hp_nf f_14 hq_q_16) f_14
  have f_19 := fr_φ_17 _ _ (hp_nf f_15 hq_q_16) f_15
  have f_20 := fr_φ_17 _ _ (hp_nf fa_φ_13 hq_q_16) fa_φ_13
  refine hv_putF (pc := 21) (ty := .array (.object "HatbandYard$Lot")) (C := RX8) (T := TX8) (N := 11) (ref := RX8) S uwX8 tyX8 tyX8_ok nmX8 hK hH hS f_20 rfl 1 (by decide) tw_89 (fun _ h9 => h9) rfl hnm rfl (by decide +kernel) rfl rfl (Nat.le_of_ble_eq_true rfl) dX8_init_21 (fun H locs hH hS => ?_)
  replace hH := nup (e := .inr (12, [.ref q_1, .ref q_16, .null, .null, .null, .null, .int (nI 0), .int (nI 0), .int (nI 0), .int (nI 0), .int (nI 0)])) hH
  obtain ⟨φ_21, hφ_21, fa_φ_21, fr_φ_21, hH⟩ := hH
  have f_22 := fr_φ_21 _ _ (hp_ne f_18 f_20 (by intro h; first | (cases h; done) | (simp at h; done))) f_18
  have f_23 := fr_φ_21 _ _ (hp_ne f_19 f_20 (by intro h; first | (cases h; done) | (simp at h; done))) f_19
  have f_24 := fr_φ_21 _ _ (hp_ne fa_φ_17 f_20 (by intro h; first | (cases h; done) | (simp at h; done))) fa_φ_17
  refine lv_aload_n (pc := 24) S.1 S.2.1 dX8_init_24 rfl (lv_at hl 0 rfl) ?_
  refine lv_bipush (pc := 25) (v := nI 12) S.1 S.2.1 dX8_init_25 (by decide) ?_
  refine hv_newq (pc := 27) (N' := 12) S tw_71 hX.ao1 hK 5 rfl hH hS hA (by decide) (by decide) (Nat.le_of_ble_eq_true rfl) (Nat.le_of_ble_eq_true rfl) (Nat.le_of_ble_eq_true rfl) dX8_init_27 (fun q_25 H hq_q_25 hH hS => ?_)
  replace hH := nup (e := .inl (cA 5, 12, .inr (.inr (.inr (.inr (fun _ => none)))))) hH
  obtain ⟨φ_26, hφ_26, fa_φ_26, fr_φ_26, hH⟩ := hH
  have f_27 := fr_φ_26 _ _ (hp_nf f_22 hq_q_25) f_22
  have f_28 := fr_φ_26 _ _ (hp_nf f_23 hq_q_25) f_23
  have f_29 := fr_φ_26 _ _ (hp_nf f_24 hq_q_25) f_24
  have f_30 := fr_φ_26 _ _ (hp_nf fa_φ_21 hq_q_25) fa_φ_21
  refine hv_putF (pc := 30) (ty := .array (.object "HatbandYard$Cone")) (C := RX8) (T := TX8) (N := 11) (ref := RX8) S uwX8 tyX8 tyX8_ok nmX8 hK hH hS f_30 rfl 2 (by decide) tw_90 (fun _ h9 => h9) rfl hnm rfl (by decide +kernel) rfl rfl (Nat.le_of_ble_eq_true rfl) dX8_init_30 (fun H locs hH hS => ?_)
  replace hH := nup (e := .inr (12, [.ref q_1, .ref q_16, .ref q_25, .null, .null, .null, .int (nI 0), .int (nI 0), .int (nI 0), .int (nI 0), .int (nI 0)])) hH
  obtain ⟨φ_31, hφ_31, fa_φ_31, fr_φ_31, hH⟩ := hH
  have f_32 := fr_φ_31 _ _ (hp_ne f_27 f_30 (by intro h; first | (cases h; done) | (simp at h; done))) f_27
  have f_33 := fr_φ_31 _ _ (hp_ne f_28 f_30 (by intro h; first | (cases h; done) | (simp at h; done))) f_28
  have f_34 := fr_φ_31 _ _ (hp_ne f_29 f_30 (by intro h; first | (cases h; done) | (simp at h; done))) f_29
  have f_35 := fr_φ_31 _ _ (hp_ne fa_φ_26 f_30 (by intro h; first | (cases h; done) | (simp at h; done))) fa_φ_26
  refine lv_aload_n (pc := 33) S.1 S.2.1 dX8_init_33 rfl (lv_at hl 0 rfl) ?_
  refine lv_bipush (pc := 34) (v := nI 6) S.1 S.2.1 dX8_init_34 (by decide) ?_
  refine hv_newq (pc := 36) (N' := 6) S tw_73 hX.ao4 hK 6 rfl hH hS hA (by decide) (by decide) (Nat.le_of_ble_eq_true rfl) (Nat.le_of_ble_eq_true rfl) (Nat.le_of_ble_eq_true rfl) dX8_init_36 (fun q_36 H hq_q_36 hH hS => ?_)
  replace hH := nup (e := .inl (cA 6, 6, .inr (.inr (.inr (.inr (fun _ => none)))))) hH
  obtain ⟨φ_37, hφ_37, fa_φ_37, fr_φ_37, hH⟩ := hH
  have f_38 := fr_φ_37 _ _ (hp_nf f_32 hq_q_36) f_32
  have f_39 := fr_φ_37 _ _ (hp_nf f_33 hq_q_36) f_33
  have f_40 := fr_φ_37 _ _ (hp_nf f_34 hq_q_36) f_34
  have f_41 := fr_φ_37 _ _ (hp_nf f_35 hq_q_36) f_35
  have f_42 := fr_φ_37 _ _ (hp_nf fa_φ_31 hq_q_36) fa_φ_31
  refine hv_putF (pc := 39) (ty := .array (.object "HatbandYard$Hand")) (C := RX8) (T := TX8) (N := 11) (ref := RX8) S uwX8 tyX8 tyX8_ok nmX8 hK hH hS f_42 rfl 3 (by decide) tw_91 (fun _ h9 => h9) rfl hnm rfl (by decide +kernel) rfl rfl (Nat.le_of_ble_eq_true rfl) dX8_init_39 (fun H locs hH hS => ?_)
  replace hH := nup (e := .inr (12, [.ref q_1, .ref q_16, .ref q_25, .ref q_36, .null, .null, .int (nI 0), .int (nI 0), .int (nI 0), .int (nI 0), .int (nI 0)])) hH
  obtain ⟨φ_43, hφ_43, fa_φ_43, fr_φ_43, hH⟩ := hH
  have f_44 := fr_φ_43 _ _ (hp_ne f_38 f_42 (by intro h; first | (cases h; done) | (simp at h; done))) f_38
  have f_45 := fr_φ_43 _ _ (hp_ne f_39 f_42 (by intro h; first | (cases h; done) | (simp at h; done))) f_39
  have f_46 := fr_φ_43 _ _ (hp_ne f_40 f_42 (by intro h; first | (cases h; done) | (simp at h; done))) f_40
  have f_47 := fr_φ_43 _ _ (hp_ne f_41 f_42 (by intro h; first | (cases h; done) | (simp at h; done))) f_41
  have f_48 := fr_φ_43 _ _ (hp_ne fa_φ_37 f_42 (by intro h; first | (cases h; done) | (simp at h; done))) fa_φ_37
  refine lv_aload_n (pc := 42) S.1 S.2.1 dX8_init_42 rfl (lv_at hl 0 rfl) ?_
  refine lv_bipush (pc := 43) (v := nI 8) S.1 S.2.1 dX8_init_43 (by decide) ?_
  refine hv_newq (pc := 45) (N' := 8) S tw_75 hX.ao0 hK 4 rfl hH hS hA (by decide) (by decide) (Nat.le_of_ble_eq_true rfl) (Nat.le_of_ble_eq_true rfl) (Nat.le_of_ble_eq_true rfl) dX8_init_45 (fun q_49 H hq_q_49 hH hS => ?_)
  replace hH := nup (e := .inl (cA 4, 8, .inr (.inr (.inr (.inr (fun _ => none)))))) hH
  obtain ⟨φ_50, hφ_50, fa_φ_50, fr_φ_50, hH⟩ := hH
  have f_51 := fr_φ_50 _ _ (hp_nf f_44 hq_q_49) f_44
  have f_52 := fr_φ_50 _ _ (hp_nf f_45 hq_q_49) f_45
  have f_53 := fr_φ_50 _ _ (hp_nf f_46 hq_q_49) f_46
  have f_54 := fr_φ_50 _ _ (hp_nf f_47 hq_q_49) f_47
  have f_55 := fr_φ_50 _ _ (hp_nf f_48 hq_q_49) f_48
  have f_56 := fr_φ_50 _ _ (hp_nf fa_φ_43 hq_q_49) fa_φ_43
  refine hv_putF (pc := 48) (ty := .array (.object "HatbandYard$Block")) (C := RX8) (T := TX8) (N := 11) (ref := RX8) S uwX8 tyX8 tyX8_ok nmX8 hK hH hS f_56 rfl 4 (by decide) tw_92 (fun _ h9 => h9) rfl hnm rfl (by decide +kernel) rfl rfl (Nat.le_of_ble_eq_true rfl) dX8_init_48 (fun H locs hH hS => ?_)
  replace hH := nup (e := .inr (12, [.ref q_1, .ref q_16, .ref q_25, .ref q_36, .ref q_49, .null, .int (nI 0), .int (nI 0), .int (nI 0), .int (nI 0), .int (nI 0)])) hH
  obtain ⟨φ_57, hφ_57, fa_φ_57, fr_φ_57, hH⟩ := hH
  have f_58 := fr_φ_57 _ _ (hp_ne f_51 f_56 (by intro h; first | (cases h; done) | (simp at h; done))) f_51
  have f_59 := fr_φ_57 _ _ (hp_ne f_52 f_56 (by intro h; first | (cases h; done) | (simp at h; done))) f_52
  have f_60 := fr_φ_57 _ _ (hp_ne f_53 f_56 (by intro h; first | (cases h; done) | (simp at h; done))) f_53
  have f_61 := fr_φ_57 _ _ (hp_ne f_54 f_56 (by intro h; first | (cases h; done) | (simp at h; done))) f_54
  have f_62 := fr_φ_57 _ _ (hp_ne f_55 f_56 (by intro h; first | (cases h; done) | (simp at h; done))) f_55
  have f_63 := fr_φ_57 _ _ (hp_ne fa_φ_50 f_56 (by intro h; first | (cases h; done) | (simp at h; done))) fa_φ_50
  refine lv_aload_n (pc := 51) S.1 S.2.1 dX8_init_51 rfl (lv_at hl 0 rfl) ?_
  refine hv_new (pc := 52) (ci := 9) (fs := [.null]) (C := RX5) (T := TX5) (N := 1) S uwX5 tyX5 tyX5_ok tw_77 tw_78 tw_6 hK hH hS hA rfl (fun j hj => by rcases (show j = 0 by omega) with rfl <;> rfl) (Nat.le_of_ble_eq_true rfl) (Nat.le_of_ble_eq_true rfl) dX8_init_52 (fun q_64 H hq_q_64 hH hS => ?_)
  replace hH := nup (e := .inr (9, [.null])) hH
  obtain ⟨φ_65, hφ_65, fa_φ_65, fr_φ_65, hH⟩ := hH
  have f_66 := fr_φ_65 _ _ (hp_nf f_58 hq_q_64) f_58
  have f_67 := fr_φ_65 _ _ (hp_nf f_59 hq_q_64) f_59
  have f_68 := fr_φ_65 _ _ (hp_nf f_60 hq_q_64) f_60
  have f_69 := fr_φ_65 _ _ (hp_nf f_61 hq_q_64) f_61
  have f_70 := fr_φ_65 _ _ (hp_nf f_62 hq_q_64) f_62
  have f_71 := fr_φ_65 _ _ (hp_nf f_63 hq_q_64) f_63
  have f_72 := fr_φ_65 _ _ (hp_nf fa_φ_57 hq_q_64) fa_φ_57
  refine lv_dup (pc := 55) S.1 S.2.1 dX8_init_55 rfl ?_
  refine hv_call (pc := 56) (va_runIN (As := []) (rest := [.ref q_64, .ref y]) S (c_X5_init l D cA ga φ_65 H.size q_64 fa_φ_65) ⟨va_cnB (host := "HatbandYard") 0 S.2.2.2.2 (gw tw_81) rfl rfl rfl (hX.nest _ (by decide +kernel)) (S.2.2.2.2 _ tw_6) (by decide +kernel) ⟨Nat.le_of_ble_eq_true rfl, Nat.le_of_ble_eq_true rfl⟩, rfl, S.2.2.2.2 _ tw_80⟩ (pre0_S hH hK hX hS hA) rfl rfl hl.1 rfl (lv_room (Nat.le_of_ble_eq_true rfl)) dX8_init_56 ⟨Nat.le_of_ble_eq_true rfl, Nat.le_of_ble_eq_true rfl⟩) hS (af_le hH hS hA) (fun v_73 φ_74 H locs hw_v_73 hH hS => ?_)
  obtain ⟨rfl, rq, hrq, hp9⟩ := hw_v_73
  rw [hp9] at hH
  obtain ⟨φ_75, hφ_75⟩ : ∃ z : hpM, z = ups φ_65 rq (.inl (cA 1, 8, .inl (fun j => nI (zr j)))) := ⟨_, rfl⟩
  rw [← hφ_75] at hH
  have f_76 : φ_75 bq = some (.inl (cA 0, 16, .inl (fun j => nI (zr j)))) := by rw [hφ_75]; exact ups_n (hp_nf f_66 hrq) f_66
  have f_77 : φ_75 q_1 = some (.inr (1, [.ref bq, .int (nI 0), .int (nI 0), .int (nI 0)])) := by rw [hφ_75]; exact ups_n (hp_nf f_67 hrq) f_67
  have f_78 : φ_75 q_16 = some (.inl (cA 7, 10, .inr (.inr (.inr (.inr (fun _ => none)))))) := by rw [hφ_75]; exact ups_n (hp_nf f_68 hrq) f_68
  have f_79 : φ_75 q_25 = some (.inl (cA 5, 12, .inr (.inr (.inr (.inr (fun _ => none)))))) := by rw [hφ_75]; exact ups_n (hp_nf f_69 hrq) f_69
  have f_80 : φ_75 q_36 = some (.inl (cA 6, 6, .inr (.inr (.inr (.inr (fun _ => none)))))) := by rw [hφ_75]; exact ups_n (hp_nf f_70 hrq) f_70
  have f_81 : φ_75 q_49 = some (.inl (cA 4, 8, .inr (.inr (.inr (.inr (fun _ => none)))))) := by rw [hφ_75]; exact ups_n (hp_nf f_71 hrq) f_71
  have f_82 : φ_75 y = some (.inr (12, [.ref q_1, .ref q_16, .ref q_25, .ref q_36, .ref q_49, .null, .int (nI 0), .int (nI 0), .int (nI 0), .int (nI 0), .int (nI 0)])) := by rw [hφ_75]; exact ups_n (hp_nf f_72 hrq) f_72
  have f_83 : φ_75 q_64 = some (.inr (9, [.null])) := by rw [hφ_75]; exact ups_n (hp_nf fa_φ_65 hrq) fa_φ_65
  have f_84 : φ_75 rq = some (.inl (cA 1, 8, .inl (fun j => nI (zr j)))) := by rw [hφ_75]; exact ups_s _ _ _
  replace hH := nup (e := .inr (9, [.ref rq])) hH
  obtain ⟨φ_85, hφ_85, fa_φ_85, fr_φ_85, hH⟩ := hH
  have f_86 := fr_φ_85 _ _ (hp_ne f_76 f_83 (by intro h; first | (cases h; done) | (simp at h; done))) f_76
  have f_87 := fr_φ_85 _ _ (hp_ne f_77 f_83 (by intro h; first | (cases h; done) | (simp at h; done))) f_77
  have f_88 := fr_φ_85 _ _ (hp_ne f_78 f_83 (by intro h; first | (cases h; done) | (simp at h; done))) f_78
  have f_89 := fr_φ_85 _ _ (hp_ne f_79 f_83 (by intro h; first | (cases h; done) | (simp at h; done))) f_79
  have f_90 := fr_φ_85 _ _ (hp_ne f_80 f_83 (by intro h; first | (cases h; done) | (simp at h; done))) f_80
  have f_91 := fr_φ_85 _ _ (hp_ne f_81 f_83 (by intro h; first | (cases h; done) | (simp at h; done))) f_81
  have f_92 := fr_φ_85 _ _ (hp_ne f_82 f_83 (by intro h; first | (cases h; done) | (simp at h; done))) f_82
  have f_93 := fr_φ_85 _ _ (hp_ne f_84 f_83 (by intro h; first | (cases h; done) | (simp at h; done))) f_84
  refine hv_putF (pc := 59) (ty := .object "HatbandYard$Head") (C := RX8) (T := TX8) (N := 11) (ref := RX8) S uwX8 tyX8 tyX8_ok nmX8 hK hH hS f_92 rfl 5 (by decide) tw_93 (fun _ h9 => h9) rfl hnm rfl (by decide +kernel) rfl rfl (Nat.le_of_ble_eq_true rfl) dX8_init_59 (fun H locs hH hS => ?_)
  replace hH := nup (e := .inr (12, [.ref q_1, .ref q_16, .ref q_25, .ref q_36, .ref q_49, .ref q_64, .int (nI 0), .int (nI 0), .int (nI 0), .int (nI 0), .int (nI 0)])) hH
  obtain ⟨φ_94, hφ_94, fa_φ_94, fr_φ_94, hH⟩ := hH
  have f_95 := fr_φ_94 _ _ (hp_ne f_86 f_92 (by intro h; first | (cases h; done) | (simp at h; done))) f_86
  have f_96 := fr_φ_94 _ _ (hp_ne f_87 f_92 (by intro h; first | (cases h; done) | (simp at h; done))) f_87
  have f_97 := fr_φ_94 _ _ (hp_ne f_88 f_92 (by intro h; first | (cases h; done) | (simp at h; done))) f_88
  have f_98 := fr_φ_94 _ _ (hp_ne f_89 f_92 (by intro h; first | (cases h; done) | (simp at h; done))) f_89
  have f_99 := fr_φ_94 _ _ (hp_ne f_90 f_92 (by intro h; first | (cases h; done) | (simp at h; done))) f_90
  have f_100 := fr_φ_94 _ _ (hp_ne f_91 f_92 (by intro h; first | (cases h; done) | (simp at h; done))) f_91
  have f_101 := fr_φ_94 _ _ (hp_ne f_93 f_92 (by intro h; first | (cases h; done) | (simp at h; done))) f_93
  have f_102 := fr_φ_94 _ _ (hp_ne fa_φ_85 f_92 (by intro h; first | (cases h; done) | (simp at h; done))) fa_φ_85
  refine lv_aload_n (pc := 62) S.1 S.2.1 dX8_init_62 rfl (lv_at hl 0 rfl) ?_
  refine lv_iconst (pc := 63) (v := nI 0) S.1 S.2.1 dX8_init_63 (by decide) ?_
  refine hv_put (pc := 64) (ty := .int) (C := RX8) (T := TX8) (N := 11) (ref := RX8) S uwX8 tyX8 tyX8_ok nmX8 hK hH hS fa_φ_94 rfl 6 (by decide) tw_94 (fun _ h9 => h9) rfl (by decide +kernel) rfl rfl (Nat.le_of_ble_eq_true rfl) dX8_init_64 (fun H locs hH hS => ?_)
  replace hH := nup (e := .inr (12, [.ref q_1, .ref q_16, .ref q_25, .ref q_36, .ref q_49, .ref q_64, .int (nI 0), .int (nI 0), .int (nI 0), .int (nI 0), .int (nI 0)])) hH
  obtain ⟨φ_103, hφ_103, fa_φ_103, fr_φ_103, hH⟩ := hH
  have f_104 := fr_φ_103 _ _ (hp_ne f_95 fa_φ_94 (by intro h; first | (cases h; done) | (simp at h; done))) f_95
  have f_105 := fr_φ_103 _ _ (hp_ne f_96 fa_φ_94 (by intro h; first | (cases h; done) | (simp at h; done))) f_96
  have f_106 := fr_φ_103 _ _ (hp_ne f_97 fa_φ_94 (by intro h; first | (cases h; done) | (simp at h; done))) f_97
  have f_107 := fr_φ_103 _ _ (hp_ne f_98 fa_φ_94 (by intro h; first | (cases h; done) | (simp at h; done))) f_98
  have f_108 := fr_φ_103 _ _ (hp_ne f_99 fa_φ_94 (by intro h; first | (cases h; done) | (simp at h; done))) f_99
  have f_109 := fr_φ_103 _ _ (hp_ne f_100 fa_φ_94 (by intro h; first | (cases h; done) | (simp at h; done))) f_100
  have f_110 := fr_φ_103 _ _ (hp_ne f_101 fa_φ_94 (by intro h; first | (cases h; done) | (simp at h; done))) f_101
  have f_111 := fr_φ_103 _ _ (hp_ne f_102 fa_φ_94 (by intro h; first | (cases h; done) | (simp at h; done))) f_102
  refine lv_aload_n (pc := 67) S.1 S.2.1 dX8_init_67 rfl (lv_at hl 0 rfl) ?_
  refine lv_iconst (pc := 68) (v := nI 0) S.1 S.2.1 dX8_init_68 (by decide) ?_
  refine hv_put (pc := 69) (ty := .int) (C := RX8) (T := TX8) (N := 11) (ref := RX8) S uwX8 tyX8 tyX8_ok nmX8 hK hH hS fa_φ_103 rfl 7 (by decide) tw_95 (fun _ h9 => h9) rfl (by decide +kernel) rfl rfl (Nat.le_of_ble_eq_true rfl) dX8_init_69 (fun H locs hH hS => ?_)
  replace hH := nup (e := .inr (12, [.ref q_1, .ref q_16, .ref q_25, .ref q_36, .ref q_49, .ref q_64, .int (nI 0), .int (nI 0), .int (nI 0), .int (nI 0), .int (nI 0)])) hH
  obtain ⟨φ_112, hφ_112, fa_φ_112, fr_φ_112, hH⟩ := hH
  have f_113 := fr_φ_112 _ _ (hp_ne f_104 fa_φ_103 (by intro h; first | (cases h; done) | (simp at h; done))) f_104
  have f_114 := fr_φ_112 _ _ (hp_ne f_105 fa_φ_103 (by intro h; first | (cases h; done) | (simp at h; done))) f_105
  have f_115 := fr_φ_112 _ _ (hp_ne f_106 fa_φ_103 (by intro h; first | (cases h; done) | (simp at h; done))) f_106
  have f_116 := fr_φ_112 _ _ (hp_ne f_107 fa_φ_103 (by intro h; first | (cases h; done) | (simp at h; done))) f_107
  have f_117 := fr_φ_112 _ _ (hp_ne f_108 fa_φ_103 (by intro h; first | (cases h; done) | (simp at h; done))) f_108
  have f_118 := fr_φ_112 _ _ (hp_ne f_109 fa_φ_103 (by intro h; first | (cases h; done) | (simp at h; done))) f_109
  have f_119 := fr_φ_112 _ _ (hp_ne f_110 fa_φ_103 (by intro h; first | (cases h; done) | (simp at h; done))) f_110
  have f_120 := fr_φ_112 _ _ (hp_ne f_111 fa_φ_103 (by intro h; first | (cases h; done) | (simp at h; done))) f_111
  refine lv_aload_n (pc := 72) S.1 S.2.1 dX8_init_72 rfl (lv_at hl 0 rfl) ?_
  refine lv_iconst (pc := 73) (v := nI 0) S.1 S.2.1 dX8_init_73 (by decide) ?_
  refine hv_put (pc := 74) (ty := .int) (C := RX8) (T := TX8) (N := 11) (ref := RX8) S uwX8 tyX8 tyX8_ok nmX8 hK hH hS fa_φ_112 rfl 8 (by decide) tw_96 (fun _ h9 => h9) rfl (by decide +kernel) rfl rfl (Nat.le_of_ble_eq_true rfl) dX8_init_74 (fun H locs hH hS => ?_)
  replace hH := nup (e := .inr (12, [.ref q_1, .ref q_16, .ref q_25, .ref q_36, .ref q_49, .ref q_64, .int (nI 0), .int (nI 0), .int (nI 0), .int (nI 0), .int (nI 0)])) hH
  obtain ⟨φ_121, hφ_121, fa_φ_121, fr_φ_121, hH⟩ := hH
  have f_122 := fr_φ_121 _ _ (hp_ne f_113 fa_φ_112 (by intro h; first | (cases h; done) | (simp at h; done))) f_113
  have f_123 := fr_φ_121 _ _ (hp_ne f_114 fa_φ_112 (by intro h; first | (cases h; done) | (simp at h; done))) f_114
  have f_124 := fr_φ_121 _ _ (hp_ne f_115 fa_φ_112 (by intro h; first | (cases h; done) | (simp at h; done))) f_115
  have f_125 := fr_φ_121 _ _ (hp_ne f_116 fa_φ_112 (by intro h; first | (cases h; done) | (simp at h; done))) f_116
  have f_126 := fr_φ_121 _ _ (hp_ne f_117 fa_φ_112 (by intro h; first | (cases h; done) | (simp at h; done))) f_117
  have f_127 := fr_φ_121 _ _ (hp_ne f_118 fa_φ_112 (by intro h; first | (cases h; done) | (simp at h; done))) f_118
  have f_128 := fr_φ_121 _ _ (hp_ne f_119 fa_φ_112 (by intro h; first | (cases h; done) | (simp at h; done))) f_119
  have f_129 := fr_φ_121 _ _ (hp_ne f_120 fa_φ_112 (by intro h; first | (cases h; done) | (simp at h; done))) f_120
  refine lv_aload_n (pc := 77) S.1 S.2.1 dX8_init_77 rfl (lv_at hl 0 rfl) ?_
  refine lv_iconst (pc := 78) (v := nI 0) S.1 S.2.1 dX8_init_78 (by decide) ?_
  refine hv_put (pc := 79) (ty := .int) (C := RX8) (T := TX8) (N := 11) (ref := RX8) S uwX8 tyX8 tyX8_ok nmX8 hK hH hS fa_φ_121 rfl 9 (by decide) tw_97 (fun _ h9 => h9) rfl (by decide +kernel) rfl rfl (Nat.le_of_ble_eq_true rfl) dX8_init_79 (fun H locs hH hS => ?_)
  replace hH := nup (e := .inr (12, [.ref q_1, .ref q_16, .ref q_25, .ref q_36, .ref q_49, .ref q_64, .int (nI 0), .int (nI 0), .int (nI 0), .int (nI 0), .int (nI 0)])) hH
  obtain ⟨φ_130, hφ_130, fa_φ_130, fr_φ_130, hH⟩ := hH
  have f_131 := fr_φ_130 _ _ (hp_ne f_122 fa_φ_121 (by intro h; first | (cases h; done) | (simp at h; done))) f_122
  have f_132 := fr_φ_130 _ _ (hp_ne f_123 fa_φ_121 (by intro h; first | (cases h; done) | (simp at h; done))) f_123
  have f_133 := fr_φ_130 _ _ (hp_ne f_124 fa_φ_121 (by intro h; first | (cases h; done) | (simp at h; done))) f_124
  have f_134 := fr_φ_130 _ _ (hp_ne f_125 fa_φ_121 (by intro h; first | (cases h; done) | (simp at h; done))) f_125
  have f_135 := fr_φ_130 _ _ (hp_ne f_126 fa_φ_121 (by intro h; first | (cases h; done) | (simp at h; done))) f_126
  have f_136 := fr_φ_130 _ _ (hp_ne f_127 fa_φ_121 (by intro h; first | (cases h; done) | (simp at h; done))) f_127
  have f_137 := fr_φ_130 _ _ (hp_ne f_128 fa_φ_121 (by intro h; first | (cases h; done) | (simp at h; done))) f_128
  have f_138 := fr_φ_130 _ _ (hp_ne f_129 fa_φ_121 (by intro h; first | (cases h; done) | (simp at h; done))) f_129
  refine lv_aload_n (pc := 82) S.1 S.2.1 dX8_init_82 rfl (lv_at hl 0 rfl) ?_
  refine lv_iconst (pc := 83) (v := nI 0) S.1 S.2.1 dX8_init_83 (by decide) ?_
  refine hv_put (pc := 84) (ty := .int) (C := RX8) (T := TX8) (N := 11) (ref := RX8) S uwX8 tyX8 tyX8_ok nmX8 hK hH hS fa_φ_130 rfl 10 (by decide) tw_98 (fun _ h9 => h9) rfl (by decide +kernel) rfl rfl (Nat.le_of_ble_eq_true rfl) dX8_init_84 (fun H locs hH hS => ?_)
  replace hH := nup (e := .inr (12, [.ref q_1, .ref q_16, .ref q_25, .ref q_36, .ref q_49, .ref q_64, .int (nI 0), .int (nI 0), .int (nI 0), .int (nI 0), .int (nI 0)])) hH
  obtain ⟨φ_139, hφ_139, fa_φ_139, fr_φ_139, hH⟩ := hH
  have f_140 := fr_φ_139 _ _ (hp_ne f_131 fa_φ_130 (by intro h; first | (cases h; done) | (simp at h; done))) f_131
  have f_141 := fr_φ_139 _ _ (hp_ne f_132 fa_φ_130 (by intro h; first | (cases h; done) | (simp at h; done))) f_132
  have f_142 := fr_φ_139 _ _ (hp_ne f_133 fa_φ_130 (by intro h; first | (cases h; done) | (simp at h; done))) f_133
  have f_143 := fr_φ_139 _ _ (hp_ne f_134 fa_φ_130 (by intro h; first | (cases h; done) | (simp at h; done))) f_134
  have f_144 := fr_φ_139 _ _ (hp_ne f_135 fa_φ_130 (by intro h; first | (cases h; done) | (simp at h; done))) f_135
  have f_145 := fr_φ_139 _ _ (hp_ne f_136 fa_φ_130 (by intro h; first | (cases h; done) | (simp at h; done))) f_136
  have f_146 := fr_φ_139 _ _ (hp_ne f_137 fa_φ_130 (by intro h; first | (cases h; done) | (simp at h; done))) f_137
  have f_147 := fr_φ_139 _ _ (hp_ne f_138 fa_φ_130 (by intro h; first | (cases h; done) | (simp at h; done))) f_138
  exact hv_vret (pc := 87) S hr hlocks hH hS (⟨rfl, q_1, bq, q_16, q_25, q_36, q_49, q_64, rq, fa_φ_139, f_141, f_140, f_142, f_143, f_144, f_145, f_147, f_146⟩) (Nat.le_of_ble_eq_true rfl) (Nat.le_of_ble_eq_true rfl) dX8_init_87
