/-! isRefused: what is refused changes nothing -/
theorem lowN {z b : Nat} (hz : z < 30) : ¬ inN ((-1 : Int32) - nI z) b := fun h => absurd ((by decide +kernel : ∀ z, z < 30 → (-1 : Int32) - nI z < 0) z hz) h.1
theorem highN {a b : Nat} (h : b ≤ a) (ha : a < 2 ^ 31) : ¬ inN (nI a) b := fun z => absurd ((inN_nI ha (by omega)).mp z) (by omega)
theorem lowR {c z lo hi : Nat} (hc : c < lo) (hl : lo < 2 ^ 30) (hz : z < 30) : ¬ inR (nI c - nI z) lo hi := fun h => by
  have := Int32.le_iff_toInt_le.mp h.1
  rw [pk_sub_toInt (by omega) (by omega), nI_toInt (by omega)] at this
  omega
theorem lowM {z lo hi : Nat} (hl : lo < 2 ^ 30) (hz : z < 30) : ¬ inR ((-1 : Int32) - nI z) lo hi := fun h => by
  have h0 := (by decide +kernel : ∀ z, z < 30 → (-1 : Int32) - nI z < 0) z hz
  exact Int32.lt_irrefl (Int32.lt_of_lt_of_le h0 (Int32.le_trans (by rw [← nI_0]; exact nI_le (Nat.zero_le _) (by omega)) h.1))
theorem m1R {lo hi : Nat} (hl : lo < 2 ^ 30) : ¬ inR (-1 : Int32) lo hi := by
  have h := lowM (z := 0) (lo := lo) (hi := hi) hl (by decide)
  rwa [show (-1 : Int32) - nI 0 = -1 by decide] at h
theorem highR {a lo hi : Nat} (h : hi < a) (ha : a < 2 ^ 31) (hl : lo < 2 ^ 31) : ¬ inR (nI a) lo hi := fun z => absurd ((inR_nI ha hl (by omega)).mp z) (by omega)
theorem lowL : ∀ z, z < 30 → ¬ inR (((nI 96 - nI z).toUInt32 % 65536).toInt32) 97 122 := by decide +kernel
theorem highL : ∀ z, z < 30 → ¬ inR (((nI (123 + z)).toUInt32 % 65536).toInt32) 97 122 := by decide +kernel
theorem letterX_1 {k : Nat} {x : Int32} (h : ¬ inR x 97 122) : letterX k x = 1 := by rw [letterX, if_neg h]
theorem letterX_2 {k : Nat} (h : 7 ≤ k) : letterX k (((nI 97).toUInt32 % 65536).toInt32) = 2 := by rw [letterX, if_pos (by decide), if_neg (by omega)]
theorem lotX_1 {k : Nat} {x : Int32} (h : ¬ inR x 1 5000) : lotX k x = 1 := by rw [lotX, if_neg h]
theorem lotX_2 {k : Nat} (h : 10 ≤ k) : lotX k (nI 5) = 2 := by rw [lotX, if_pos (by decide), if_neg (by omega)]
theorem coneX_3 {nl nc : Nat} {lg : Nat → Nat} {x y t : Int32} (h : ¬ inN x nl) : coneX nl nc lg x y t = 3 := by rw [coneX, if_neg h]
theorem coneX_1 {nl nc k : Nat} {lg : Nat → Nat} {y t : Int32} (hk : k < nl) (hn : nl < 2 ^ 31) (h : ¬ inR y 10 500) : coneX nl nc lg (nI k) y t = 1 := by rw [coneX, if_pos ((inN_nI (by omega) hn).mpr hk), if_neg h]
theorem coneX_1t {nl nc k : Nat} {lg : Nat → Nat} {t : Int32} (hk : k < nl) (hn : nl < 2 ^ 31) (h : ¬ inR t 0 5) : coneX nl nc lg (nI k) (nI 10) t = 1 := by rw [coneX, if_pos ((inN_nI (by omega) hn).mpr hk), if_pos (by decide), if_neg h]
theorem coneX_2 {nl nc k y t : Nat} {lg : Nat → Nat} (hk : k < nl) (hn : nl < 2 ^ 31) (h1 : 10 ≤ y) (h2 : y ≤ 500) (ht : t ≤ 5) (h : lg k < y ∨ 12 ≤ nc) : coneX nl nc lg (nI k) (nI y) (nI t) = 2 := by
  rw [coneX, if_pos ((inN_nI (by omega) hn).mpr hk), if_pos ((inR_nI (by omega) (by omega) (by omega)).mpr ⟨h1, h2⟩), if_pos ((inR_nI (by omega) (by omega) (by omega)).mpr ⟨by omega, ht⟩), nx_nI (by omega), nx_nI (by omega)]
  split
  · split
    · omega
    · rfl
  · rfl
theorem handX_2 {n : Nat} (h : 6 ≤ n) : handX n = 2 := by rw [handX, if_neg (by omega)]
theorem cycleX_3 {nc nh : Nat} {cf cy ad dr : Nat → Nat} {x z : Int32} (h : ¬ inN x nc) : cycleX nc nh cf cy ad dr x z = 3 := by rw [cycleX, if_neg h]
theorem cycleX_3h {nc nh k : Nat} {cf cy ad dr : Nat → Nat} {z : Int32} (hk : k < nc) (hn : nc < 2 ^ 31) (h : ¬ inN z nh) : cycleX nc nh cf cy ad dr (nI k) z = 3 := by rw [cycleX, if_pos ((inN_nI (by omega) hn).mpr hk), if_neg h]
theorem cycleX_2 {nc nh k j : Nat} {cf cy ad dr : Nat → Nat} (hk : k < nc) (hn : nc < 2 ^ 31) (hj : j < nh) (hh : nh < 2 ^ 31) (h : 30 < ad j + fAir (cf k) ∨ dr k ≠ 0 ∨ 12 ≤ cy k) : cycleX nc nh cf cy ad dr (nI k) (nI j) = 2 := by
  rw [cycleX, if_pos ((inN_nI (by omega) hn).mpr hk), if_pos ((inN_nI (by omega) hh).mpr hj), nx_nI (by omega), nx_nI (by omega)]
  split
  · split
    · split
      · omega
      · rfl
    · rfl
  · rfl
theorem blockX_1 {nb : Nat} {x z : Int32} (h : ¬ inR x 300 700) : blockX nb x z = 1 := by rw [blockX, if_neg h]
theorem blockX_1d {nb : Nat} {z : Int32} (h : ¬ inR z 1 6) : blockX nb (nI 500) z = 1 := by rw [blockX, if_pos (by decide), if_neg h]
theorem blockX_2 {nb : Nat} (h : 8 ≤ nb) : blockX nb (nI 500) (nI 3) = 2 := by rw [blockX, if_pos (by decide), if_pos (by decide), if_neg (by omega)]
theorem drawX_3 {nc nb : Nat} {x z : Int32} (h : ¬ inN x nc) : drawX nc nb x z = 3 := by rw [drawX, if_neg h]
theorem drawX_3b {nc nb k : Nat} {z : Int32} (hk : k < nc) (hn : nc < 2 ^ 31) (h : ¬ inN z nb) : drawX nc nb (nI k) z = 3 := by rw [drawX, if_pos ((inN_nI (by omega) hn).mpr hk), if_neg h]
theorem trimX_3 {nc : Nat} {tr : Nat → Nat} {x : Int32} (h : ¬ inN x nc) : trimX nc tr x = 3 := by rw [trimX, if_neg h]
theorem trimX_2 {nc k : Nat} {tr : Nat → Nat} (hk : k < nc) (hn : nc < 2 ^ 31) (h : ¬ tr k = 0) : trimX nc tr (nI k) = 2 := by rw [trimX, if_pos ((inN_nI (by omega) hn).mpr hk), nx_nI (by omega), if_neg h]
theorem passX_1 {x : Int32} (h : ¬ inR x 1 30) : passX x = 1 := by rw [passX, if_neg h]
theorem aboutX_3 {nc : Nat} {x z t : Int32} (h : ¬ inN x nc) : aboutX nc x z t = 3 := by rw [aboutX, if_neg h]
theorem aboutX_3b {nc k : Nat} {z t : Int32} (hk : k < nc) (hn : nc < 2 ^ 31) (h : ¬ inN z 6) : aboutX nc (nI k) z t = 3 := by rw [aboutX, if_pos ((inN_nI (by omega) hn).mpr hk), if_neg h]
theorem aboutX_1 {nc k b : Nat} {t : Int32} (hk : k < nc) (hn : nc < 2 ^ 31) (hb : b < 6) (h : ¬ inR t 0 3) : aboutX nc (nI k) (nI b) t = 1 := by rw [aboutX, if_pos ((inN_nI (by omega) hn).mpr hk), if_pos ((inN_nI (by omega) (by omega)).mpr hb), if_neg h]
theorem anewX_3 {nc : Nat} {x z : Int32} (h : ¬ inN x nc) : anewX nc x z = 3 := by rw [anewX, if_neg h]
theorem anewX_3b {nc k : Nat} {z : Int32} (hk : k < nc) (hn : nc < 2 ^ 31) (h : ¬ inN z 6) : anewX nc (nI k) z = 3 := by rw [anewX, if_pos ((inN_nI (by omega) hn).mpr hk), if_neg h]
theorem brimX_3 {nc : Nat} {x z : Int32} (h : ¬ inN x nc) : brimX nc x z = 3 := by rw [brimX, if_neg h]
theorem brimX_1 {nc k : Nat} {z : Int32} (hk : k < nc) (hn : nc < 2 ^ 31) (h : ¬ inR z 10 150) : brimX nc (nI k) z = 1 := by rw [brimX, if_pos ((inN_nI (by omega) hn).mpr hk), if_neg h]
theorem cntX_1 {x : Int32} (h : ¬ inR x 1 100) : cntX x = 1 := by rw [cntX, if_neg h]
theorem rowsX_1 {x : Int32} (h : ¬ inR x 1 2000) : rowsX x = 1 := by rw [rowsX, if_neg h]
theorem measX_3 {x z : Int32} (h : ¬ inN x 8) : measX x z = 3 := by rw [measX, if_neg h]
theorem measX_1 {k : Nat} {z : Int32} (hk : k < 8) (h : ¬ inR z 0 200) : measX (nI k) z = 1 := by rw [measX, if_pos ((inN_nI (by omega) (by omega)).mpr hk), if_neg h]
theorem inX_3 {n : Nat} {x : Int32} (h : ¬ inN x n) : inX n x = 3 := by rw [inX, if_neg h]
theorem lgc (a : Int64) : lg_cmp a a = 0 := by unfold lg_cmp; simp
set_option maxHeartbeats 4000000 in
set_option maxRecDepth 100000 in
/-- isRefused(o, m, c, x) -/
theorem l_isRefused0 (l : Launch) (hfl : l.stackTraces = false) (D : va_G) (cA : Nat → ClassId) (ga : Nat → Nat → Nat) (φ : hpM) (sz : Nat) (az : Nat → Nat) (tn tk tm : Nat) (tg sc : Nat → Nat) (ar : Nat → Nat → Nat) (w : Nat → Nat → Nat → Nat) (ez o : Nat → Nat → Nat) (x : Nat) (hY : YW cA ga az tk tm tg sc ar w ez o φ) (hI : LI tn sc ar w ez o) (hT : TY tk tg) (h200 : tn ≤ 200) (h5 : o 0 5 = tk) (hx : x < 2 ^ 31) (hx2 : x % 2 = 0) : hM l yL_isRefused cL_isRefused 16 (some .boolean) { frames := 16, cells := 2600, slots := 17000, locals := 680 } [.ref (az 0), .ref (az 9), .ref (az 10), .int (nI x)] D cA ga φ sz (fun v φ' => v = some (.int (nI 1)) ∧ φ' = φ) 2600 17000 := by
  refine hM.of (by decide) (Nat.le_of_ble_eq_true rfl) rfl ?_
  intro p e s m args below meth c ls H locs S hr hlocks hnm hsz hHz hH hK hX hS hA hl
  have hl1 := hI.l1
  have hm := hI.lm
  have hk7 := hT.1
  have hz30 : x % 30 < 30 := Nat.mod_lt _ (by decide)
  refine lv_iload_n (pc := 0) S.1 S.2.1 dL_isRefused_0 rfl (lv_at hl 3 rfl) ?_
  refine lv_iconst (pc := 1) (v := nI 2) S.1 S.2.1 dL_isRefused_1 (by decide) ?_
  refine lv_irem (pc := 2) S.1 S.2.1 dL_isRefused_2 (by decide) ?_
  refine hv_ti (y := nI (x % 2)) (pk_rem (by omega) (by omega) (by omega)) ?_
  refine hv_if_ne (pc := 3) (tgt := 10) (a := x % 2) S.1 S.2.1 (by omega) dL_isRefused_3 (by decide) (fun c9 => absurd c9 (by omega)) (fun c_1 => ?_)
  refine lv_iconst (pc := 6) (v := nI 1) S.1 S.2.1 dL_isRefused_6 (by decide) ?_
  refine lv_goto (pc := 7) (tgt := 11) S.1 S.2.1 dL_isRefused_7 (by decide) ?_
  refine lv_istore (pc := 11) (lv' := [(4, .int (nI 1)), (0, .ref (az 0)), (1, .ref (az 9)), (2, .ref (az 10)), (3, .int (nI x))]) S.1 S.2.1 dL_isRefused_11 hl (by decide) rfl (fun ls hl => ?_)
  refine lv_iload (pc := 13) S.1 S.2.1 dL_isRefused_13 (lv_at hl 0 rfl) ?_
  refine hv_if_eq (pc := 15) (tgt := 27) (a := 1) S.1 S.2.1 (by omega) dL_isRefused_15 (by decide) (fun c9 => absurd c9 (by omega)) (fun c_2 => ?_)
  refine lv_iconst (pc := 18) (v := (-1 : Int32)) S.1 S.2.1 dL_isRefused_18 (by decide) ?_
  refine lv_iload_n (pc := 19) S.1 S.2.1 dL_isRefused_19 rfl (lv_at hl 4 rfl) ?_
  refine lv_bipush (pc := 20) (v := nI 30) S.1 S.2.1 dL_isRefused_20 (by decide) ?_
  refine lv_irem (pc := 22) S.1 S.2.1 dL_isRefused_22 (by decide) ?_
  refine hv_ti (y := nI (x % 30)) (pk_rem (by omega) (by omega) (by omega)) ?_
  refine lv_isub (pc := 23) S.1 S.2.1 dL_isRefused_23 ?_
  refine lv_goto (pc := 24) (tgt := 35) S.1 S.2.1 dL_isRefused_24 (by decide) ?_
  refine lv_istore (pc := 35) (lv' := [(5, .int ((-1 : Int32) - nI (x % 30))), (4, .int (nI 1)), (0, .ref (az 0)), (1, .ref (az 9)), (2, .ref (az 10)), (3, .int (nI x))]) S.1 S.2.1 dL_isRefused_35 hl (by decide) rfl (fun ls hl => ?_)
  refine lv_iload (pc := 37) S.1 S.2.1 dL_isRefused_37 (lv_at hl 1 rfl) ?_
  refine hv_if_eq (pc := 39) (tgt := 51) (a := 1) S.1 S.2.1 (by omega) dL_isRefused_39 (by decide) (fun c9 => absurd c9 (by omega)) (fun c_3 => ?_)
  refine lv_iconst (pc := 42) (v := (-1 : Int32)) S.1 S.2.1 dL_isRefused_42 (by decide) ?_
  refine lv_iload_n (pc := 43) S.1 S.2.1 dL_isRefused_43 rfl (lv_at hl 5 rfl) ?_
  refine lv_bipush (pc := 44) (v := nI 30) S.1 S.2.1 dL_isRefused_44 (by decide) ?_
  refine lv_irem (pc := 46) S.1 S.2.1 dL_isRefused_46 (by decide) ?_
  refine hv_ti (y := nI (x % 30)) (pk_rem (by omega) (by omega) (by omega)) ?_
  refine lv_isub (pc := 47) S.1 S.2.1 dL_isRefused_47 ?_
  refine lv_goto (pc := 48) (tgt := 59) S.1 S.2.1 dL_isRefused_48 (by decide) ?_
  refine lv_istore (pc := 59) (lv' := [(6, .int ((-1 : Int32) - nI (x % 30))), (5, .int ((-1 : Int32) - nI (x % 30))), (4, .int (nI 1)), (0, .ref (az 0)), (1, .ref (az 9)), (2, .ref (az 10)), (3, .int (nI x))]) S.1 S.2.1 dL_isRefused_59 hl (by decide) rfl (fun ls hl => ?_)
  refine lv_iload (pc := 61) S.1 S.2.1 dL_isRefused_61 (lv_at hl 2 rfl) ?_
  refine hv_if_eq (pc := 63) (tgt := 75) (a := 1) S.1 S.2.1 (by omega) dL_isRefused_63 (by decide) (fun c9 => absurd c9 (by omega)) (fun c_4 => ?_)
  refine lv_iconst (pc := 66) (v := (-1 : Int32)) S.1 S.2.1 dL_isRefused_66 (by decide) ?_
  refine lv_iload_n (pc := 67) S.1 S.2.1 dL_isRefused_67 rfl (lv_at hl 6 rfl) ?_
  refine lv_bipush (pc := 68) (v := nI 30) S.1 S.2.1 dL_isRefused_68 (by decide) ?_
  refine lv_irem (pc := 70) S.1 S.2.1 dL_isRefused_70 (by decide) ?_
  refine hv_ti (y := nI (x % 30)) (pk_rem (by omega) (by omega) (by omega)) ?_
  refine lv_isub (pc := 71) S.1 S.2.1 dL_isRefused_71 ?_
  refine lv_goto (pc := 72) (tgt := 83) S.1 S.2.1 dL_isRefused_72 (by decide) ?_
  refine lv_istore (pc := 83) (lv' := [(7, .int ((-1 : Int32) - nI (x % 30))), (6, .int ((-1 : Int32) - nI (x % 30))), (5, .int ((-1 : Int32) - nI (x % 30))), (4, .int (nI 1)), (0, .ref (az 0)), (1, .ref (az 9)), (2, .ref (az 10)), (3, .int (nI x))]) S.1 S.2.1 dL_isRefused_83 hl (by decide) rfl (fun ls hl => ?_)
  refine lv_iload (pc := 85) S.1 S.2.1 dL_isRefused_85 (lv_at hl 3 rfl) ?_
  refine hv_if_eq (pc := 87) (tgt := 99) (a := 1) S.1 S.2.1 (by omega) dL_isRefused_87 (by decide) (fun c9 => absurd c9 (by omega)) (fun c_5 => ?_)
  refine lv_iconst (pc := 90) (v := (-1 : Int32)) S.1 S.2.1 dL_isRefused_90 (by decide) ?_
  refine lv_iload_n (pc := 91) S.1 S.2.1 dL_isRefused_91 rfl (lv_at hl 7 rfl) ?_
  refine lv_bipush (pc := 92) (v := nI 30) S.1 S.2.1 dL_isRefused_92 (by decide) ?_
  refine lv_irem (pc := 94) S.1 S.2.1 dL_isRefused_94 (by decide) ?_
  refine hv_ti (y := nI (x % 30)) (pk_rem (by omega) (by omega) (by omega)) ?_
  refine lv_isub (pc := 95) S.1 S.2.1 dL_isRefused_95 ?_
  refine lv_goto (pc := 96) (tgt := 107) S.1 S.2.1 dL_isRefused_96 (by decide) ?_
  refine lv_istore (pc := 107) (lv' := [(8, .int ((-1 : Int32) - nI (x % 30))), (7, .int ((-1 : Int32) - nI (x % 30))), (6, .int ((-1 : Int32) - nI (x % 30))), (5, .int ((-1 : Int32) - nI (x % 30))), (4, .int (nI 1)), (0, .ref (az 0)), (1, .ref (az 9)), (2, .ref (az 10)), (3, .int (nI x))]) S.1 S.2.1 dL_isRefused_107 hl (by decide) rfl (fun ls hl => ?_)
  refine lv_iload (pc := 109) S.1 S.2.1 dL_isRefused_109 (lv_at hl 4 rfl) ?_
  refine hv_if_eq (pc := 111) (tgt := 123) (a := 1) S.1 S.2.1 (by omega) dL_isRefused_111 (by decide) (fun c9 => absurd c9 (by omega)) (fun c_6 => ?_)
  refine lv_iconst (pc := 114) (v := (-1 : Int32)) S.1 S.2.1 dL_isRefused_114 (by decide) ?_
  refine lv_iload_n (pc := 115) S.1 S.2.1 dL_isRefused_115 rfl (lv_at hl 8 rfl) ?_
  refine lv_bipush (pc := 116) (v := nI 30) S.1 S.2.1 dL_isRefused_116 (by decide) ?_
  refine lv_irem (pc := 118) S.1 S.2.1 dL_isRefused_118 (by decide) ?_
  refine hv_ti (y := nI (x % 30)) (pk_rem (by omega) (by omega) (by omega)) ?_
  refine lv_isub (pc := 119) S.1 S.2.1 dL_isRefused_119 ?_
  refine lv_goto (pc := 120) (tgt := 130) S.1 S.2.1 dL_isRefused_120 (by decide) ?_
  refine lv_istore (pc := 130) (lv' := [(9, .int ((-1 : Int32) - nI (x % 30))), (8, .int ((-1 : Int32) - nI (x % 30))), (7, .int ((-1 : Int32) - nI (x % 30))), (6, .int ((-1 : Int32) - nI (x % 30))), (5, .int ((-1 : Int32) - nI (x % 30))), (4, .int (nI 1)), (0, .ref (az 0)), (1, .ref (az 9)), (2, .ref (az 10)), (3, .int (nI x))]) S.1 S.2.1 dL_isRefused_130 hl (by decide) rfl (fun ls hl => ?_)
  refine lv_iload (pc := 132) S.1 S.2.1 dL_isRefused_132 (lv_at hl 5 rfl) ?_
  refine hv_if_eq (pc := 134) (tgt := 146) (a := 1) S.1 S.2.1 (by omega) dL_isRefused_134 (by decide) (fun c9 => absurd c9 (by omega)) (fun c_7 => ?_)
  refine lv_iconst (pc := 137) (v := nI 0) S.1 S.2.1 dL_isRefused_137 (by decide) ?_
  refine lv_iload_n (pc := 138) S.1 S.2.1 dL_isRefused_138 rfl (lv_at hl 9 rfl) ?_
  refine lv_bipush (pc := 139) (v := nI 30) S.1 S.2.1 dL_isRefused_139 (by decide) ?_
  refine lv_irem (pc := 141) S.1 S.2.1 dL_isRefused_141 (by decide) ?_
  refine hv_ti (y := nI (x % 30)) (pk_rem (by omega) (by omega) (by omega)) ?_
  refine lv_isub (pc := 142) S.1 S.2.1 dL_isRefused_142 ?_
  refine lv_goto (pc := 143) (tgt := 153) S.1 S.2.1 dL_isRefused_143 (by decide) ?_
  refine lv_istore (pc := 153) (lv' := [(10, .int (nI 0 - nI (x % 30))), (9, .int ((-1 : Int32) - nI (x % 30))), (8, .int ((-1 : Int32) - nI (x % 30))), (7, .int ((-1 : Int32) - nI (x % 30))), (6, .int ((-1 : Int32) - nI (x % 30))), (5, .int ((-1 : Int32) - nI (x % 30))), (4, .int (nI 1)), (0, .ref (az 0)), (1, .ref (az 9)), (2, .ref (az 10)), (3, .int (nI x))]) S.1 S.2.1 dL_isRefused_153 hl (by decide) rfl (fun ls hl => ?_)
  refine lv_aload_n (pc := 155) S.1 S.2.1 dL_isRefused_155 rfl (lv_at hl 7 rfl) ?_
  refine lv_aload_n (pc := 156) S.1 S.2.1 dL_isRefused_156 rfl (lv_at hl 8 rfl) ?_
  refine hv_call (pc := 157) (va_runS (As := [.ref (az 0), .ref (az 9)]) (rest := []) S (l_all l hfl D cA ga φ H.size az tn tk tm tg sc ar w ez o hY hI hT) (va_cwS 2 S.2.2.2.2 (gS tw_891 tw_892 tw_0 tw_893) rfl rfl rfl (by decide +kernel) ⟨Nat.le_of_ble_eq_true rfl, Nat.le_of_ble_eq_true rfl⟩) (pre0_S hH hK hX hS hA) rfl rfl hl.1 rfl (lv_room (Nat.le_of_ble_eq_true rfl)) dL_isRefused_157 ⟨Nat.le_trans (show _ ≤ 2600 by omega) (Nat.le_of_ble_eq_true rfl), Nat.le_trans (show _ ≤ 17000 by omega) (Nat.le_of_ble_eq_true rfl)⟩) hS (af_le hH hS hA) (fun v_8 φ_9 H locs hw_v_8 hH hS => ?_)
  obtain ⟨rfl, hqv_8⟩ := hw_v_8
  rw [hqv_8] at hH
  have hcone : ¬ inN ((-1 : Int32) - nI (x % 30)) (sc 3) := lowN hz30
  have hlot : ¬ inN ((-1 : Int32) - nI (x % 30)) (sc 2) := lowN hz30
  have hblock : ¬ inN ((-1 : Int32) - nI (x % 30)) (sc 4) := lowN hz30
  have hhand : ¬ inN ((-1 : Int32) - nI (x % 30)) (sc 5) := lowN hz30
  have hsix : ¬ inN ((-1 : Int32) - nI (x % 30)) (6) := lowN hz30
  have hsix5 : ¬ inR ((-1 : Int32) - nI (x % 30)) 0 5 := lowM (by decide) hz30
  have hhun : ¬ inR (nI 0 - nI (x % 30)) 1 100 := lowR (by decide) (by decide) hz30
  refine lv_lstore (pc := 160) (lv' := [(11, .long (allF sc ar w ez o)), (10, .int (nI 0 - nI (x % 30))), (9, .int ((-1 : Int32) - nI (x % 30))), (8, .int ((-1 : Int32) - nI (x % 30))), (7, .int ((-1 : Int32) - nI (x % 30))), (6, .int ((-1 : Int32) - nI (x % 30))), (5, .int ((-1 : Int32) - nI (x % 30))), (4, .int (nI 1)), (0, .ref (az 0)), (1, .ref (az 9)), (2, .ref (az 10)), (3, .int (nI x))]) S.1 S.2.1 dL_isRefused_160 hl (by decide) rfl (fun ls hl => ?_)
  refine lv_aload_n (pc := 162) S.1 S.2.1 dL_isRefused_162 rfl (lv_at hl 8 rfl) ?_
  refine lv_iconst (pc := 163) (v := nI 0) S.1 S.2.1 dL_isRefused_163 (by decide) ?_
  refine lv_iload (pc := 164) S.1 S.2.1 dL_isRefused_164 (lv_at hl 7 rfl) ?_
  refine hv_if_eq (pc := 166) (tgt := 179) (a := 1) S.1 S.2.1 (by omega) dL_isRefused_166 (by decide) (fun c9 => absurd c9 (by omega)) (fun c_10 => ?_)
  refine lv_bipush (pc := 169) (v := nI 96) S.1 S.2.1 dL_isRefused_169 (by decide) ?_
  refine lv_iload_n (pc := 171) S.1 S.2.1 dL_isRefused_171 rfl (lv_at hl 11 rfl) ?_
  refine lv_bipush (pc := 172) (v := nI 30) S.1 S.2.1 dL_isRefused_172 (by decide) ?_
  refine lv_irem (pc := 174) S.1 S.2.1 dL_isRefused_174 (by decide) ?_
  refine hv_ti (y := nI (x % 30)) (pk_rem (by omega) (by omega) (by omega)) ?_
  refine lv_isub (pc := 175) S.1 S.2.1 dL_isRefused_175 ?_
  refine lv_goto (pc := 176) (tgt := 186) S.1 S.2.1 dL_isRefused_176 (by decide) ?_
  refine lv_iconst (pc := 186) (v := nI 0) S.1 S.2.1 dL_isRefused_186 (by decide) ?_
  refine lv_iconst (pc := 187) (v := nI 0) S.1 S.2.1 dL_isRefused_187 (by decide) ?_
  refine hv_call (pc := 188) (vx_runSW (As := [.ref (az 0), .int (nI 0), .int (nI 96 - nI (x % 30)), .int (nI 0), .int (nI 0)]) (rest := []) S (ax_letter_1 l hfl D cA ga φ H.size az tn tk tm tg sc ar w ez o o (nI 96 - nI (x % 30)) (nI 0) (nI 0) hY hI hT h200 (letterX_1 (lowL _ hz30))) (vx_cwSW 5 S.2.2.2.2 (gSW tw_261 tw_262 tw_0 tw_263) rfl rfl rfl (by decide +kernel) ⟨Nat.le_of_ble_eq_true rfl, Nat.le_of_ble_eq_true rfl⟩) (pre0_S hH hK hX hS hA) rfl rfl hl.1 rfl (lv_room (Nat.le_of_ble_eq_true rfl)) dL_isRefused_188 ⟨Nat.le_trans (show _ ≤ 2600 by omega) (Nat.le_of_ble_eq_true rfl), Nat.le_trans (show _ ≤ 17000 by omega) (Nat.le_of_ble_eq_true rfl)⟩) hS (af_le hH hS hA) (fun v_11 φ_12 H locs hw_v_11 hH hS => ?_)
  obtain ⟨rfl, hqv_11⟩ := hw_v_11
  rw [hqv_11] at hH
  refine lv_ldc (pc := 191) (v := (-16820000 : Int32)) S.1 S.2.1 S.2.2.2.1 (S.2.2.2.2 _ tw_886) dL_isRefused_191 ?_
  refine lv_icmp_ne (pc := 193) (tgt := 643) S.1 S.2.1 dL_isRefused_193 (by decide) (fun c9 => absurd c9 (fun h9 => h9 rfl)) (fun c_13 => ?_)
  refine lv_aload_n (pc := 196) S.1 S.2.1 dL_isRefused_196 rfl (lv_at hl 8 rfl) ?_
  refine lv_iconst (pc := 197) (v := nI 1) S.1 S.2.1 dL_isRefused_197 (by decide) ?_
  refine lv_iload (pc := 198) S.1 S.2.1 dL_isRefused_198 (lv_at hl 7 rfl) ?_
  refine hv_if_eq (pc := 200) (tgt := 212) (a := 1) S.1 S.2.1 (by omega) dL_isRefused_200 (by decide) (fun c9 => absurd c9 (by omega)) (fun c_14 => ?_)
  refine lv_iconst (pc := 203) (v := nI 0) S.1 S.2.1 dL_isRefused_203 (by decide) ?_
  refine lv_iload_n (pc := 204) S.1 S.2.1 dL_isRefused_204 rfl (lv_at hl 11 rfl) ?_
  refine lv_bipush (pc := 205) (v := nI 30) S.1 S.2.1 dL_isRefused_205 (by decide) ?_
  refine lv_irem (pc := 207) S.1 S.2.1 dL_isRefused_207 (by decide) ?_
  refine hv_ti (y := nI (x % 30)) (pk_rem (by omega) (by omega) (by omega)) ?_
  refine lv_isub (pc := 208) S.1 S.2.1 dL_isRefused_208 ?_
  refine lv_goto (pc := 209) (tgt := 215) S.1 S.2.1 dL_isRefused_209 (by decide) ?_
  refine lv_iconst (pc := 215) (v := nI 0) S.1 S.2.1 dL_isRefused_215 (by decide) ?_
  refine lv_iconst (pc := 216) (v := nI 0) S.1 S.2.1 dL_isRefused_216 (by decide) ?_
  refine hv_call (pc := 217) (vx_runSW (As := [.ref (az 0), .int (nI 1), .int (nI 0 - nI (x % 30)), .int (nI 0), .int (nI 0)]) (rest := []) S (ax_lot_1 l hfl D cA ga φ H.size az tn tk tm tg sc ar w ez o o (nI 0 - nI (x % 30)) (nI 0) (nI 0) hY hI hT h200 (lotX_1 (lowR (by decide) (by decide) hz30))) (vx_cwSW 5 S.2.2.2.2 (gSW tw_261 tw_262 tw_0 tw_263) rfl rfl rfl (by decide +kernel) ⟨Nat.le_of_ble_eq_true rfl, Nat.le_of_ble_eq_true rfl⟩) (pre0_S hH hK hX hS hA) rfl rfl hl.1 rfl (lv_room (Nat.le_of_ble_eq_true rfl)) dL_isRefused_217 ⟨Nat.le_trans (show _ ≤ 2600 by omega) (Nat.le_of_ble_eq_true rfl), Nat.le_trans (show _ ≤ 17000 by omega) (Nat.le_of_ble_eq_true rfl)⟩) hS (af_le hH hS hA) (fun v_15 φ_16 H locs hw_v_15 hH hS => ?_)
  obtain ⟨rfl, hqv_15⟩ := hw_v_15
  rw [hqv_15] at hH
  refine lv_ldc (pc := 220) (v := (-16820000 : Int32)) S.1 S.2.1 S.2.2.2.1 (S.2.2.2.2 _ tw_886) dL_isRefused_220 ?_
  refine lv_icmp_ne (pc := 222) (tgt := 643) S.1 S.2.1 dL_isRefused_222 (by decide) (fun c9 => absurd c9 (fun h9 => h9 rfl)) (fun c_17 => ?_)
  refine lv_aload_n (pc := 225) S.1 S.2.1 dL_isRefused_225 rfl (lv_at hl 8 rfl) ?_
  refine lv_iconst (pc := 226) (v := nI 2) S.1 S.2.1 dL_isRefused_226 (by decide) ?_
  refine lv_iload (pc := 227) S.1 S.2.1 dL_isRefused_227 (lv_at hl 5 rfl) ?_
  refine lv_iconst (pc := 229) (v := nI 0) S.1 S.2.1 dL_isRefused_229 (by decide) ?_
  refine lv_bipush (pc := 230) (v := nI 9) S.1 S.2.1 dL_isRefused_230 (by decide) ?_
  refine hv_call (pc := 232) (vx_runSW (As := [.ref (az 0), .int (nI 2), .int ((-1 : Int32) - nI (x % 30)), .int (nI 0), .int (nI 9)]) (rest := []) S (ax_cone_3 l hfl D cA ga φ H.size az tn tk tm tg sc ar w ez o o ((-1 : Int32) - nI (x % 30)) (nI 0) (nI 9) hY hI hT h200 (coneX_3 hlot)) (vx_cwSW 5 S.2.2.2.2 (gSW tw_261 tw_262 tw_0 tw_263) rfl rfl rfl (by decide +kernel) ⟨Nat.le_of_ble_eq_true rfl, Nat.le_of_ble_eq_true rfl⟩) (pre0_S hH hK hX hS hA) rfl rfl hl.1 rfl (lv_room (Nat.le_of_ble_eq_true rfl)) dL_isRefused_232 ⟨Nat.le_trans (show _ ≤ 2600 by omega) (Nat.le_of_ble_eq_true rfl), Nat.le_trans (show _ ≤ 17000 by omega) (Nat.le_of_ble_eq_true rfl)⟩) hS (af_le hH hS hA) (fun v_18 φ_19 H locs hw_v_18 hH hS => ?_)
  obtain ⟨rfl, hqv_18⟩ := hw_v_18
  rw [hqv_18] at hH
  refine lv_ldc (pc := 235) (v := (-16810000 : Int32)) S.1 S.2.1 S.2.2.2.1 (S.2.2.2.2 _ tw_885) dL_isRefused_235 ?_
  refine lv_icmp_ne (pc := 237) (tgt := 643) S.1 S.2.1 dL_isRefused_237 (by decide) (fun c9 => absurd c9 (fun h9 => h9 rfl)) (fun c_20 => ?_)
  refine lv_aload_n (pc := 240) S.1 S.2.1 dL_isRefused_240 rfl (lv_at hl 8 rfl) ?_
  refine lv_iconst (pc := 241) (v := nI 4) S.1 S.2.1 dL_isRefused_241 (by decide) ?_
  refine lv_iload (pc := 242) S.1 S.2.1 dL_isRefused_242 (lv_at hl 6 rfl) ?_
  refine lv_iconst (pc := 244) (v := nI 0) S.1 S.2.1 dL_isRefused_244 (by decide) ?_
  refine lv_iconst (pc := 245) (v := nI 0) S.1 S.2.1 dL_isRefused_245 (by decide) ?_
  refine hv_call (pc := 246) (vx_runSW (As := [.ref (az 0), .int (nI 4), .int ((-1 : Int32) - nI (x % 30)), .int (nI 0), .int (nI 0)]) (rest := []) S (ax_cycle_3 l hfl D cA ga φ H.size az tn tk tm tg sc ar w ez o o ((-1 : Int32) - nI (x % 30)) (nI 0) (nI 0) hY hI hT h200 (cycleX_3 hcone)) (vx_cwSW 5 S.2.2.2.2 (gSW tw_261 tw_262 tw_0 tw_263) rfl rfl rfl (by decide +kernel) ⟨Nat.le_of_ble_eq_true rfl, Nat.le_of_ble_eq_true rfl⟩) (pre0_S hH hK hX hS hA) rfl rfl hl.1 rfl (lv_room (Nat.le_of_ble_eq_true rfl)) dL_isRefused_246 ⟨Nat.le_trans (show _ ≤ 2600 by omega) (Nat.le_of_ble_eq_true rfl), Nat.le_trans (show _ ≤ 17000 by omega) (Nat.le_of_ble_eq_true rfl)⟩) hS (af_le hH hS hA) (fun v_21 φ_22 H locs hw_v_21 hH hS => ?_)
  obtain ⟨rfl, hqv_21⟩ := hw_v_21
  rw [hqv_21] at hH
  refine lv_ldc (pc := 249) (v := (-16810000 : Int32)) S.1 S.2.1 S.2.2.2.1 (S.2.2.2.2 _ tw_885) dL_isRefused_249 ?_
  refine lv_icmp_ne (pc := 251) (tgt := 643) S.1 S.2.1 dL_isRefused_251 (by decide) (fun c9 => absurd c9 (fun h9 => h9 rfl)) (fun c_23 => ?_)
  refine lv_aload_n (pc := 254) S.1 S.2.1 dL_isRefused_254 rfl (lv_at hl 8 rfl) ?_
  refine lv_iconst (pc := 255) (v := nI 5) S.1 S.2.1 dL_isRefused_255 (by decide) ?_
  refine lv_iload (pc := 256) S.1 S.2.1 dL_isRefused_256 (lv_at hl 7 rfl) ?_
  refine hv_if_eq (pc := 258) (tgt := 272) (a := 1) S.1 S.2.1 (by omega) dL_isRefused_258 (by decide) (fun c9 => absurd c9 (by omega)) (fun c_24 => ?_)
  refine lv_sipush (pc := 261) (v := nI 299) S.1 S.2.1 dL_isRefused_261 (by decide) ?_
  refine lv_iload_n (pc := 264) S.1 S.2.1 dL_isRefused_264 rfl (lv_at hl 11 rfl) ?_
  refine lv_bipush (pc := 265) (v := nI 30) S.1 S.2.1 dL_isRefused_265 (by decide) ?_
  refine lv_irem (pc := 267) S.1 S.2.1 dL_isRefused_267 (by decide) ?_
  refine hv_ti (y := nI (x % 30)) (pk_rem (by omega) (by omega) (by omega)) ?_
  refine lv_isub (pc := 268) S.1 S.2.1 dL_isRefused_268 ?_
  refine lv_goto (pc := 269) (tgt := 275) S.1 S.2.1 dL_isRefused_269 (by decide) ?_
  refine lv_iconst (pc := 275) (v := nI 3) S.1 S.2.1 dL_isRefused_275 (by decide) ?_
  refine lv_iconst (pc := 276) (v := nI 0) S.1 S.2.1 dL_isRefused_276 (by decide) ?_
  refine hv_call (pc := 277) (vx_runSW (As := [.ref (az 0), .int (nI 5), .int (nI 299 - nI (x % 30)), .int (nI 3), .int (nI 0)]) (rest := []) S (ax_block_1 l hfl D cA ga φ H.size az tn tk tm tg sc ar w ez o o (nI 299 - nI (x % 30)) (nI 3) (nI 0) hY hI hT h200 (blockX_1 (lowR (by decide) (by decide) hz30))) (vx_cwSW 5 S.2.2.2.2 (gSW tw_261 tw_262 tw_0 tw_263) rfl rfl rfl (by decide +kernel) ⟨Nat.le_of_ble_eq_true rfl, Nat.le_of_ble_eq_true rfl⟩) (pre0_S hH hK hX hS hA) rfl rfl hl.1 rfl (lv_room (Nat.le_of_ble_eq_true rfl)) dL_isRefused_277 ⟨Nat.le_trans (show _ ≤ 2600 by omega) (Nat.le_of_ble_eq_true rfl), Nat.le_trans (show _ ≤ 17000 by omega) (Nat.le_of_ble_eq_true rfl)⟩) hS (af_le hH hS hA) (fun v_25 φ_26 H locs hw_v_25 hH hS => ?_)
  obtain ⟨rfl, hqv_25⟩ := hw_v_25
  rw [hqv_25] at hH
  refine lv_ldc (pc := 280) (v := (-16820000 : Int32)) S.1 S.2.1 S.2.2.2.1 (S.2.2.2.2 _ tw_886) dL_isRefused_280 ?_
  refine lv_icmp_ne (pc := 282) (tgt := 643) S.1 S.2.1 dL_isRefused_282 (by decide) (fun c9 => absurd c9 (fun h9 => h9 rfl)) (fun c_27 => ?_)
  refine lv_aload_n (pc := 285) S.1 S.2.1 dL_isRefused_285 rfl (lv_at hl 8 rfl) ?_
  refine lv_iconst (pc := 286) (v := nI 5) S.1 S.2.1 dL_isRefused_286 (by decide) ?_
  refine lv_sipush (pc := 287) (v := nI 500) S.1 S.2.1 dL_isRefused_287 (by decide) ?_
  refine lv_iload (pc := 290) S.1 S.2.1 dL_isRefused_290 (lv_at hl 7 rfl) ?_
  refine hv_if_eq (pc := 292) (tgt := 304) (a := 1) S.1 S.2.1 (by omega) dL_isRefused_292 (by decide) (fun c9 => absurd c9 (by omega)) (fun c_28 => ?_)
  refine lv_iconst (pc := 295) (v := nI 0) S.1 S.2.1 dL_isRefused_295 (by decide) ?_
  refine lv_iload_n (pc := 296) S.1 S.2.1 dL_isRefused_296 rfl (lv_at hl 11 rfl) ?_
  refine lv_bipush (pc := 297) (v := nI 30) S.1 S.2.1 dL_isRefused_297 (by decide) ?_
  refine lv_irem (pc := 299) S.1 S.2.1 dL_isRefused_299 (by decide) ?_
  refine hv_ti (y := nI (x % 30)) (pk_rem (by omega) (by omega) (by omega)) ?_
  refine lv_isub (pc := 300) S.1 S.2.1 dL_isRefused_300 ?_
  refine lv_goto (pc := 301) (tgt := 306) S.1 S.2.1 dL_isRefused_301 (by decide) ?_
  refine lv_iconst (pc := 306) (v := nI 0) S.1 S.2.1 dL_isRefused_306 (by decide) ?_
  refine hv_call (pc := 307) (vx_runSW (As := [.ref (az 0), .int (nI 5), .int (nI 500), .int (nI 0 - nI (x % 30)), .int (nI 0)]) (rest := []) S (ax_block_1 l hfl D cA ga φ H.size az tn tk tm tg sc ar w ez o o (nI 500) (nI 0 - nI (x % 30)) (nI 0) hY hI hT h200 (blockX_1d (lowR (by decide) (by decide) hz30))) (vx_cwSW 5 S.2.2.2.2 (gSW tw_261 tw_262 tw_0 tw_263) rfl rfl rfl (by decide +kernel) ⟨Nat.le_of_ble_eq_true rfl, Nat.le_of_ble_eq_true rfl⟩) (pre0_S hH hK hX hS hA) rfl rfl hl.1 rfl (lv_room (Nat.le_of_ble_eq_true rfl)) dL_isRefused_307 ⟨Nat.le_trans (show _ ≤ 2600 by omega) (Nat.le_of_ble_eq_true rfl), Nat.le_trans (show _ ≤ 17000 by omega) (Nat.le_of_ble_eq_true rfl)⟩) hS (af_le hH hS hA) (fun v_29 φ_30 H locs hw_v_29 hH hS => ?_)
  obtain ⟨rfl, hqv_29⟩ := hw_v_29
  rw [hqv_29] at hH
  refine lv_ldc (pc := 310) (v := (-16820000 : Int32)) S.1 S.2.1 S.2.2.2.1 (S.2.2.2.2 _ tw_886) dL_isRefused_310 ?_
  refine lv_icmp_ne (pc := 312) (tgt := 643) S.1 S.2.1 dL_isRefused_312 (by decide) (fun c9 => absurd c9 (fun h9 => h9 rfl)) (fun c_31 => ?_)
  refine lv_aload_n (pc := 315) S.1 S.2.1 dL_isRefused_315 rfl (lv_at hl 8 rfl) ?_
  refine lv_bipush (pc := 316) (v := nI 6) S.1 S.2.1 dL_isRefused_316 (by decide) ?_
  refine lv_iload (pc := 318) S.1 S.2.1 dL_isRefused_318 (lv_at hl 6 rfl) ?_
  refine lv_iconst (pc := 320) (v := nI 0) S.1 S.2.1 dL_isRefused_320 (by decide) ?_
  refine lv_iconst (pc := 321) (v := nI 0) S.1 S.2.1 dL_isRefused_321 (by decide) ?_
  refine hv_call (pc := 322) (vx_runSW (As := [.ref (az 0), .int (nI 6), .int ((-1 : Int32) - nI (x % 30)), .int (nI 0), .int (nI 0)]) (rest := []) S (ax_draw_3 l hfl D cA ga φ H.size az tn tk tm tg sc ar w ez o o ((-1 : Int32) - nI (x % 30)) (nI 0) (nI 0) hY hI hT h200 (drawX_3 hcone)) (vx_cwSW 5 S.2.2.2.2 (gSW tw_261 tw_262 tw_0 tw_263) rfl rfl rfl (by decide +kernel) ⟨Nat.le_of_ble_eq_true rfl, Nat.le_of_ble_eq_true rfl⟩) (pre0_S hH hK hX hS hA) rfl rfl hl.1 rfl (lv_room (Nat.le_of_ble_eq_true rfl)) dL_isRefused_322 ⟨Nat.le_trans (show _ ≤ 2600 by omega) (Nat.le_of_ble_eq_true rfl), Nat.le_trans (show _ ≤ 17000 by omega) (Nat.le_of_ble_eq_true rfl)⟩) hS (af_le hH hS hA) (fun v_32 φ_33 H locs hw_v_32 hH hS => ?_)
  obtain ⟨rfl, hqv_32⟩ := hw_v_32
  rw [hqv_32] at hH
  refine lv_ldc (pc := 325) (v := (-16810000 : Int32)) S.1 S.2.1 S.2.2.2.1 (S.2.2.2.2 _ tw_885) dL_isRefused_325 ?_
  refine lv_icmp_ne (pc := 327) (tgt := 643) S.1 S.2.1 dL_isRefused_327 (by decide) (fun c9 => absurd c9 (fun h9 => h9 rfl)) (fun c_34 => ?_)
  refine lv_aload_n (pc := 330) S.1 S.2.1 dL_isRefused_330 rfl (lv_at hl 8 rfl) ?_
  refine lv_bipush (pc := 331) (v := nI 7) S.1 S.2.1 dL_isRefused_331 (by decide) ?_
  refine lv_iload (pc := 333) S.1 S.2.1 dL_isRefused_333 (lv_at hl 6 rfl) ?_
  refine lv_iconst (pc := 335) (v := nI 0) S.1 S.2.1 dL_isRefused_335 (by decide) ?_
  refine lv_iconst (pc := 336) (v := nI 0) S.1 S.2.1 dL_isRefused_336 (by decide) ?_
  refine hv_call (pc := 337) (vx_runSW (As := [.ref (az 0), .int (nI 7), .int ((-1 : Int32) - nI (x % 30)), .int (nI 0), .int (nI 0)]) (rest := []) S (ax_trim_3 l hfl D cA ga φ H.size az tn tk tm tg sc ar w ez o o ((-1 : Int32) - nI (x % 30)) (nI 0) (nI 0) hY hI hT h200 (trimX_3 hcone)) (vx_cwSW 5 S.2.2.2.2 (gSW tw_261 tw_262 tw_0 tw_263) rfl rfl rfl (by decide +kernel) ⟨Nat.le_of_ble_eq_true rfl, Nat.le_of_ble_eq_true rfl⟩) (pre0_S hH hK hX hS hA) rfl rfl hl.1 rfl (lv_room (Nat.le_of_ble_eq_true rfl)) dL_isRefused_337 ⟨Nat.le_trans (show _ ≤ 2600 by omega) (Nat.le_of_ble_eq_true rfl), Nat.le_trans (show _ ≤ 17000 by omega) (Nat.le_of_ble_eq_true rfl)⟩) hS (af_le hH hS hA) (fun v_35 φ_36 H locs hw_v_35 hH hS => ?_)
  obtain ⟨rfl, hqv_35⟩ := hw_v_35
  rw [hqv_35] at hH
  refine lv_ldc (pc := 340) (v := (-16810000 : Int32)) S.1 S.2.1 S.2.2.2.1 (S.2.2.2.2 _ tw_885) dL_isRefused_340 ?_
  refine lv_icmp_ne (pc := 342) (tgt := 643) S.1 S.2.1 dL_isRefused_342 (by decide) (fun c9 => absurd c9 (fun h9 => h9 rfl)) (fun c_37 => ?_)
  refine lv_aload_n (pc := 345) S.1 S.2.1 dL_isRefused_345 rfl (lv_at hl 8 rfl) ?_
  refine lv_bipush (pc := 346) (v := nI 8) S.1 S.2.1 dL_isRefused_346 (by decide) ?_
  refine lv_iload (pc := 348) S.1 S.2.1 dL_isRefused_348 (lv_at hl 7 rfl) ?_
  refine hv_if_eq (pc := 350) (tgt := 362) (a := 1) S.1 S.2.1 (by omega) dL_isRefused_350 (by decide) (fun c9 => absurd c9 (by omega)) (fun c_38 => ?_)
  refine lv_iconst (pc := 353) (v := nI 0) S.1 S.2.1 dL_isRefused_353 (by decide) ?_
  refine lv_iload_n (pc := 354) S.1 S.2.1 dL_isRefused_354 rfl (lv_at hl 11 rfl) ?_
  refine lv_bipush (pc := 355) (v := nI 30) S.1 S.2.1 dL_isRefused_355 (by decide) ?_
  refine lv_irem (pc := 357) S.1 S.2.1 dL_isRefused_357 (by decide) ?_
  refine hv_ti (y := nI (x % 30)) (pk_rem (by omega) (by omega) (by omega)) ?_
  refine lv_isub (pc := 358) S.1 S.2.1 dL_isRefused_358 ?_
  refine lv_goto (pc := 359) (tgt := 364) S.1 S.2.1 dL_isRefused_359 (by decide) ?_
  refine lv_iconst (pc := 364) (v := nI 0) S.1 S.2.1 dL_isRefused_364 (by decide) ?_
  refine lv_iconst (pc := 365) (v := nI 0) S.1 S.2.1 dL_isRefused_365 (by decide) ?_
  refine hv_call (pc := 366) (vx_runSW (As := [.ref (az 0), .int (nI 8), .int (nI 0 - nI (x % 30)), .int (nI 0), .int (nI 0)]) (rest := []) S (ax_pass_1 l hfl D cA ga φ H.size az tn tk tm tg sc ar w ez o o (nI 0 - nI (x % 30)) (nI 0) (nI 0) hY hI hT h200 (passX_1 (lowR (by decide) (by decide) hz30))) (vx_cwSW 5 S.2.2.2.2 (gSW tw_261 tw_262 tw_0 tw_263) rfl rfl rfl (by decide +kernel) ⟨Nat.le_of_ble_eq_true rfl, Nat.le_of_ble_eq_true rfl⟩) (pre0_S hH hK hX hS hA) rfl rfl hl.1 rfl (lv_room (Nat.le_of_ble_eq_true rfl)) dL_isRefused_366 ⟨Nat.le_trans (show _ ≤ 2600 by omega) (Nat.le_of_ble_eq_true rfl), Nat.le_trans (show _ ≤ 17000 by omega) (Nat.le_of_ble_eq_true rfl)⟩) hS (af_le hH hS hA) (fun v_39 φ_40 H locs hw_v_39 hH hS => ?_)
  obtain ⟨rfl, hqv_39⟩ := hw_v_39
  rw [hqv_39] at hH
  refine lv_ldc (pc := 369) (v := (-16820000 : Int32)) S.1 S.2.1 S.2.2.2.1 (S.2.2.2.2 _ tw_886) dL_isRefused_369 ?_
  refine lv_icmp_ne (pc := 371) (tgt := 643) S.1 S.2.1 dL_isRefused_371 (by decide) (fun c9 => absurd c9 (fun h9 => h9 rfl)) (fun c_41 => ?_)
  refine lv_aload_n (pc := 374) S.1 S.2.1 dL_isRefused_374 rfl (lv_at hl 8 rfl) ?_
  refine lv_bipush (pc := 375) (v := nI 9) S.1 S.2.1 dL_isRefused_375 (by decide) ?_
  refine lv_iload (pc := 377) S.1 S.2.1 dL_isRefused_377 (lv_at hl 6 rfl) ?_
  refine lv_iconst (pc := 379) (v := nI 0) S.1 S.2.1 dL_isRefused_379 (by decide) ?_
  refine lv_bipush (pc := 380) (v := nI 9) S.1 S.2.1 dL_isRefused_380 (by decide) ?_
  refine hv_call (pc := 382) (vx_runSW (As := [.ref (az 0), .int (nI 9), .int ((-1 : Int32) - nI (x % 30)), .int (nI 0), .int (nI 9)]) (rest := []) S (ax_about_3 l hfl D cA ga φ H.size az tn tk tm tg sc ar w ez o o ((-1 : Int32) - nI (x % 30)) (nI 0) (nI 9) hY hI hT h200 (aboutX_3 hcone)) (vx_cwSW 5 S.2.2.2.2 (gSW tw_261 tw_262 tw_0 tw_263) rfl rfl rfl (by decide +kernel) ⟨Nat.le_of_ble_eq_true rfl, Nat.le_of_ble_eq_true rfl⟩) (pre0_S hH hK hX hS hA) rfl rfl hl.1 rfl (lv_room (Nat.le_of_ble_eq_true rfl)) dL_isRefused_382 ⟨Nat.le_trans (show _ ≤ 2600 by omega) (Nat.le_of_ble_eq_true rfl), Nat.le_trans (show _ ≤ 17000 by omega) (Nat.le_of_ble_eq_true rfl)⟩) hS (af_le hH hS hA) (fun v_42 φ_43 H locs hw_v_42 hH hS => ?_)
  obtain ⟨rfl, hqv_42⟩ := hw_v_42
  rw [hqv_42] at hH
  refine lv_ldc (pc := 385) (v := (-16810000 : Int32)) S.1 S.2.1 S.2.2.2.1 (S.2.2.2.2 _ tw_885) dL_isRefused_385 ?_
  refine lv_icmp_ne (pc := 387) (tgt := 643) S.1 S.2.1 dL_isRefused_387 (by decide) (fun c9 => absurd c9 (fun h9 => h9 rfl)) (fun c_44 => ?_)
  refine lv_aload_n (pc := 390) S.1 S.2.1 dL_isRefused_390 rfl (lv_at hl 8 rfl) ?_
  refine lv_bipush (pc := 391) (v := nI 10) S.1 S.2.1 dL_isRefused_391 (by decide) ?_
  refine lv_iload (pc := 393) S.1 S.2.1 dL_isRefused_393 (lv_at hl 6 rfl) ?_
  refine lv_iconst (pc := 395) (v := nI 0) S.1 S.2.1 dL_isRefused_395 (by decide) ?_
  refine lv_iconst (pc := 396) (v := nI 0) S.1 S.2.1 dL_isRefused_396 (by decide) ?_
  refine hv_call (pc := 397) (vx_runSW (As := [.ref (az 0), .int (nI 10), .int ((-1 : Int32) - nI (x % 30)), .int (nI 0), .int (nI 0)]) (rest := []) S (ax_widthAnew_3 l hfl D cA ga φ H.size az tn tk tm tg sc ar w ez o o ((-1 : Int32) - nI (x % 30)) (nI 0) (nI 0) hY hI hT h200 (anewX_3 hcone)) (vx_cwSW 5 S.2.2.2.2 (gSW tw_261 tw_262 tw_0 tw_263) rfl rfl rfl (by decide +kernel) ⟨Nat.le_of_ble_eq_true rfl, Nat.le_of_ble_eq_true rfl⟩) (pre0_S hH hK hX hS hA) rfl rfl hl.1 rfl (lv_room (Nat.le_of_ble_eq_true rfl)) dL_isRefused_397 ⟨Nat.le_trans (show _ ≤ 2600 by omega) (Nat.le_of_ble_eq_true rfl), Nat.le_trans (show _ ≤ 17000 by omega) (Nat.le_of_ble_eq_true rfl)⟩) hS (af_le hH hS hA) (fun v_45 φ_46 H locs hw_v_45 hH hS => ?_)
  obtain ⟨rfl, hqv_45⟩ := hw_v_45
  rw [hqv_45] at hH
  refine lv_ldc (pc := 400) (v := (-16810000 : Int32)) S.1 S.2.1 S.2.2.2.1 (S.2.2.2.2 _ tw_885) dL_isRefused_400 ?_
  refine lv_icmp_ne (pc := 402) (tgt := 643) S.1 S.2.1 dL_isRefused_402 (by decide) (fun c9 => absurd c9 (fun h9 => h9 rfl)) (fun c_47 => ?_)
  refine lv_aload_n (pc := 405) S.1 S.2.1 dL_isRefused_405 rfl (lv_at hl 8 rfl) ?_
  refine lv_bipush (pc := 406) (v := nI 11) S.1 S.2.1 dL_isRefused_406 (by decide) ?_
  refine lv_iload (pc := 408) S.1 S.2.1 dL_isRefused_408 (lv_at hl 6 rfl) ?_
  refine lv_iconst (pc := 410) (v := nI 0) S.1 S.2.1 dL_isRefused_410 (by decide) ?_
  refine lv_iconst (pc := 411) (v := nI 0) S.1 S.2.1 dL_isRefused_411 (by decide) ?_
  refine hv_call (pc := 412) (vx_runSW (As := [.ref (az 0), .int (nI 11), .int ((-1 : Int32) - nI (x % 30)), .int (nI 0), .int (nI 0)]) (rest := []) S (ax_brim_3 l hfl D cA ga φ H.size az tn tk tm tg sc ar w ez o o ((-1 : Int32) - nI (x % 30)) (nI 0) (nI 0) hY hI hT h200 (brimX_3 hcone)) (vx_cwSW 5 S.2.2.2.2 (gSW tw_261 tw_262 tw_0 tw_263) rfl rfl rfl (by decide +kernel) ⟨Nat.le_of_ble_eq_true rfl, Nat.le_of_ble_eq_true rfl⟩) (pre0_S hH hK hX hS hA) rfl rfl hl.1 rfl (lv_room (Nat.le_of_ble_eq_true rfl)) dL_isRefused_412 ⟨Nat.le_trans (show _ ≤ 2600 by omega) (Nat.le_of_ble_eq_true rfl), Nat.le_trans (show _ ≤ 17000 by omega) (Nat.le_of_ble_eq_true rfl)⟩) hS (af_le hH hS hA) (fun v_48 φ_49 H locs hw_v_48 hH hS => ?_)
  obtain ⟨rfl, hqv_48⟩ := hw_v_48
  rw [hqv_48] at hH
  refine lv_ldc (pc := 415) (v := (-16810000 : Int32)) S.1 S.2.1 S.2.2.2.1 (S.2.2.2.2 _ tw_885) dL_isRefused_415 ?_
  refine lv_icmp_ne (pc := 417) (tgt := 643) S.1 S.2.1 dL_isRefused_417 (by decide) (fun c9 => absurd c9 (fun h9 => h9 rfl)) (fun c_50 => ?_)
  refine lv_aload_n (pc := 420) S.1 S.2.1 dL_isRefused_420 rfl (lv_at hl 8 rfl) ?_
  refine lv_bipush (pc := 421) (v := nI 12) S.1 S.2.1 dL_isRefused_421 (by decide) ?_
  refine lv_iload (pc := 423) S.1 S.2.1 dL_isRefused_423 (lv_at hl 1 rfl) ?_
  refine lv_iconst (pc := 425) (v := nI 0) S.1 S.2.1 dL_isRefused_425 (by decide) ?_
  refine lv_iconst (pc := 426) (v := nI 0) S.1 S.2.1 dL_isRefused_426 (by decide) ?_
  refine hv_call (pc := 427) (vx_runSW (As := [.ref (az 0), .int (nI 12), .int (nI 0 - nI (x % 30)), .int (nI 0), .int (nI 0)]) (rest := []) S (ax_count_1 l hfl D cA ga φ H.size az tn tk tm tg sc ar w ez o o (nI 0 - nI (x % 30)) (nI 0) (nI 0) hY hI hT h200 (cntX_1 hhun)) (vx_cwSW 5 S.2.2.2.2 (gSW tw_261 tw_262 tw_0 tw_263) rfl rfl rfl (by decide +kernel) ⟨Nat.le_of_ble_eq_true rfl, Nat.le_of_ble_eq_true rfl⟩) (pre0_S hH hK hX hS hA) rfl rfl hl.1 rfl (lv_room (Nat.le_of_ble_eq_true rfl)) dL_isRefused_427 ⟨Nat.le_trans (show _ ≤ 2600 by omega) (Nat.le_of_ble_eq_true rfl), Nat.le_trans (show _ ≤ 17000 by omega) (Nat.le_of_ble_eq_true rfl)⟩) hS (af_le hH hS hA) (fun v_51 φ_52 H locs hw_v_51 hH hS => ?_)
  obtain ⟨rfl, hqv_51⟩ := hw_v_51
  rw [hqv_51] at hH
  refine lv_ldc (pc := 430) (v := (-16820000 : Int32)) S.1 S.2.1 S.2.2.2.1 (S.2.2.2.2 _ tw_886) dL_isRefused_430 ?_
  refine lv_icmp_ne (pc := 432) (tgt := 643) S.1 S.2.1 dL_isRefused_432 (by decide) (fun c9 => absurd c9 (fun h9 => h9 rfl)) (fun c_53 => ?_)
  refine lv_aload_n (pc := 435) S.1 S.2.1 dL_isRefused_435 rfl (lv_at hl 8 rfl) ?_
  refine lv_bipush (pc := 436) (v := nI 13) S.1 S.2.1 dL_isRefused_436 (by decide) ?_
  refine lv_iload (pc := 438) S.1 S.2.1 dL_isRefused_438 (lv_at hl 1 rfl) ?_
  refine lv_iconst (pc := 440) (v := nI 0) S.1 S.2.1 dL_isRefused_440 (by decide) ?_
  refine lv_iconst (pc := 441) (v := nI 0) S.1 S.2.1 dL_isRefused_441 (by decide) ?_
  refine hv_call (pc := 442) (vx_runSW (As := [.ref (az 0), .int (nI 13), .int (nI 0 - nI (x % 30)), .int (nI 0), .int (nI 0)]) (rest := []) S (ax_countAnew_1 l hfl D cA ga φ H.size az tn tk tm tg sc ar w ez o o (nI 0 - nI (x % 30)) (nI 0) (nI 0) hY hI hT h200 (cntX_1 hhun)) (vx_cwSW 5 S.2.2.2.2 (gSW tw_261 tw_262 tw_0 tw_263) rfl rfl rfl (by decide +kernel) ⟨Nat.le_of_ble_eq_true rfl, Nat.le_of_ble_eq_true rfl⟩) (pre0_S hH hK hX hS hA) rfl rfl hl.1 rfl (lv_room (Nat.le_of_ble_eq_true rfl)) dL_isRefused_442 ⟨Nat.le_trans (show _ ≤ 2600 by omega) (Nat.le_of_ble_eq_true rfl), Nat.le_trans (show _ ≤ 17000 by omega) (Nat.le_of_ble_eq_true rfl)⟩) hS (af_le hH hS hA) (fun v_54 φ_55 H locs hw_v_54 hH hS => ?_)
  obtain ⟨rfl, hqv_54⟩ := hw_v_54
  rw [hqv_54] at hH
  refine lv_ldc (pc := 445) (v := (-16820000 : Int32)) S.1 S.2.1 S.2.2.2.1 (S.2.2.2.2 _ tw_886) dL_isRefused_445 ?_
  refine lv_icmp_ne (pc := 447) (tgt := 643) S.1 S.2.1 dL_isRefused_447 (by decide) (fun c9 => absurd c9 (fun h9 => h9 rfl)) (fun c_56 => ?_)
  refine lv_aload_n (pc := 450) S.1 S.2.1 dL_isRefused_450 rfl (lv_at hl 8 rfl) ?_
  refine lv_bipush (pc := 451) (v := nI 14) S.1 S.2.1 dL_isRefused_451 (by decide) ?_
  refine lv_iload (pc := 453) S.1 S.2.1 dL_isRefused_453 (lv_at hl 7 rfl) ?_
  refine hv_if_eq (pc := 455) (tgt := 467) (a := 1) S.1 S.2.1 (by omega) dL_isRefused_455 (by decide) (fun c9 => absurd c9 (by omega)) (fun c_57 => ?_)
  refine lv_iconst (pc := 458) (v := nI 0) S.1 S.2.1 dL_isRefused_458 (by decide) ?_
  refine lv_iload_n (pc := 459) S.1 S.2.1 dL_isRefused_459 rfl (lv_at hl 11 rfl) ?_
  refine lv_bipush (pc := 460) (v := nI 30) S.1 S.2.1 dL_isRefused_460 (by decide) ?_
  refine lv_irem (pc := 462) S.1 S.2.1 dL_isRefused_462 (by decide) ?_
  refine hv_ti (y := nI (x % 30)) (pk_rem (by omega) (by omega) (by omega)) ?_
  refine lv_isub (pc := 463) S.1 S.2.1 dL_isRefused_463 ?_
  refine lv_goto (pc := 464) (tgt := 470) S.1 S.2.1 dL_isRefused_464 (by decide) ?_
  refine lv_iconst (pc := 470) (v := nI 0) S.1 S.2.1 dL_isRefused_470 (by decide) ?_
  refine lv_iconst (pc := 471) (v := nI 0) S.1 S.2.1 dL_isRefused_471 (by decide) ?_
  refine hv_call (pc := 472) (vx_runSW (As := [.ref (az 0), .int (nI 14), .int (nI 0 - nI (x % 30)), .int (nI 0), .int (nI 0)]) (rest := []) S (ax_rows_1 l hfl D cA ga φ H.size az tn tk tm tg sc ar w ez o o (nI 0 - nI (x % 30)) (nI 0) (nI 0) hY hI hT h200 (rowsX_1 (lowR (by decide) (by decide) hz30))) (vx_cwSW 5 S.2.2.2.2 (gSW tw_261 tw_262 tw_0 tw_263) rfl rfl rfl (by decide +kernel) ⟨Nat.le_of_ble_eq_true rfl, Nat.le_of_ble_eq_true rfl⟩) (pre0_S hH hK hX hS hA) rfl rfl hl.1 rfl (lv_room (Nat.le_of_ble_eq_true rfl)) dL_isRefused_472 ⟨Nat.le_trans (show _ ≤ 2600 by omega) (Nat.le_of_ble_eq_true rfl), Nat.le_trans (show _ ≤ 17000 by omega) (Nat.le_of_ble_eq_true rfl)⟩) hS (af_le hH hS hA) (fun v_58 φ_59 H locs hw_v_58 hH hS => ?_)
  obtain ⟨rfl, hqv_58⟩ := hw_v_58
  rw [hqv_58] at hH
  refine lv_ldc (pc := 475) (v := (-16820000 : Int32)) S.1 S.2.1 S.2.2.2.1 (S.2.2.2.2 _ tw_886) dL_isRefused_475 ?_
  refine lv_icmp_ne (pc := 477) (tgt := 643) S.1 S.2.1 dL_isRefused_477 (by decide) (fun c9 => absurd c9 (fun h9 => h9 rfl)) (fun c_60 => ?_)
  refine lv_aload_n (pc := 480) S.1 S.2.1 dL_isRefused_480 rfl (lv_at hl 8 rfl) ?_
  refine lv_bipush (pc := 481) (v := nI 15) S.1 S.2.1 dL_isRefused_481 (by decide) ?_
  refine lv_iload (pc := 483) S.1 S.2.1 dL_isRefused_483 (lv_at hl 7 rfl) ?_
  refine hv_if_eq (pc := 485) (tgt := 497) (a := 1) S.1 S.2.1 (by omega) dL_isRefused_485 (by decide) (fun c9 => absurd c9 (by omega)) (fun c_61 => ?_)
  refine lv_iconst (pc := 488) (v := (-1 : Int32)) S.1 S.2.1 dL_isRefused_488 (by decide) ?_
  refine lv_iload_n (pc := 489) S.1 S.2.1 dL_isRefused_489 rfl (lv_at hl 11 rfl) ?_
  refine lv_bipush (pc := 490) (v := nI 30) S.1 S.2.1 dL_isRefused_490 (by decide) ?_
  refine lv_irem (pc := 492) S.1 S.2.1 dL_isRefused_492 (by decide) ?_
  refine hv_ti (y := nI (x % 30)) (pk_rem (by omega) (by omega) (by omega)) ?_
  refine lv_isub (pc := 493) S.1 S.2.1 dL_isRefused_493 ?_
  refine lv_goto (pc := 494) (tgt := 499) S.1 S.2.1 dL_isRefused_494 (by decide) ?_
  refine lv_sipush (pc := 499) (v := nI 999) S.1 S.2.1 dL_isRefused_499 (by decide) ?_
  refine lv_iconst (pc := 502) (v := nI 0) S.1 S.2.1 dL_isRefused_502 (by decide) ?_
  refine hv_call (pc := 503) (vx_runSW (As := [.ref (az 0), .int (nI 15), .int ((-1 : Int32) - nI (x % 30)), .int (nI 999), .int (nI 0)]) (rest := []) S (ax_measure_3 l hfl D cA ga φ H.size az tn tk tm tg sc ar w ez o o ((-1 : Int32) - nI (x % 30)) (nI 999) (nI 0) hY hI hT h200 (measX_3 (lowN hz30))) (vx_cwSW 5 S.2.2.2.2 (gSW tw_261 tw_262 tw_0 tw_263) rfl rfl rfl (by decide +kernel) ⟨Nat.le_of_ble_eq_true rfl, Nat.le_of_ble_eq_true rfl⟩) (pre0_S hH hK hX hS hA) rfl rfl hl.1 rfl (lv_room (Nat.le_of_ble_eq_true rfl)) dL_isRefused_503 ⟨Nat.le_trans (show _ ≤ 2600 by omega) (Nat.le_of_ble_eq_true rfl), Nat.le_trans (show _ ≤ 17000 by omega) (Nat.le_of_ble_eq_true rfl)⟩) hS (af_le hH hS hA) (fun v_62 φ_63 H locs hw_v_62 hH hS => ?_)
  obtain ⟨rfl, hqv_62⟩ := hw_v_62
  rw [hqv_62] at hH
  refine lv_ldc (pc := 506) (v := (-16810000 : Int32)) S.1 S.2.1 S.2.2.2.1 (S.2.2.2.2 _ tw_885) dL_isRefused_506 ?_
  refine lv_icmp_ne (pc := 508) (tgt := 643) S.1 S.2.1 dL_isRefused_508 (by decide) (fun c9 => absurd c9 (fun h9 => h9 rfl)) (fun c_64 => ?_)
  refine lv_aload_n (pc := 511) S.1 S.2.1 dL_isRefused_511 rfl (lv_at hl 8 rfl) ?_
  refine lv_bipush (pc := 512) (v := nI 15) S.1 S.2.1 dL_isRefused_512 (by decide) ?_
  refine lv_iload_n (pc := 514) S.1 S.2.1 dL_isRefused_514 rfl (lv_at hl 11 rfl) ?_
  refine lv_bipush (pc := 515) (v := nI 8) S.1 S.2.1 dL_isRefused_515 (by decide) ?_
  refine lv_irem (pc := 517) S.1 S.2.1 dL_isRefused_517 (by decide) ?_
  refine hv_ti (y := nI (x % 8)) (pk_rem (by omega) (by omega) (by omega)) ?_
  refine lv_iload (pc := 518) S.1 S.2.1 dL_isRefused_518 (lv_at hl 7 rfl) ?_
  refine hv_if_eq (pc := 520) (tgt := 527) (a := 1) S.1 S.2.1 (by omega) dL_isRefused_520 (by decide) (fun c9 => absurd c9 (by omega)) (fun c_65 => ?_)
  refine lv_iconst (pc := 523) (v := (-1 : Int32)) S.1 S.2.1 dL_isRefused_523 (by decide) ?_
  refine lv_goto (pc := 524) (tgt := 535) S.1 S.2.1 dL_isRefused_524 (by decide) ?_
  refine lv_iconst (pc := 535) (v := nI 0) S.1 S.2.1 dL_isRefused_535 (by decide) ?_
  refine hv_call (pc := 536) (vx_runSW (As := [.ref (az 0), .int (nI 15), .int (nI (x % 8)), .int ((-1 : Int32)), .int (nI 0)]) (rest := []) S (ax_measure_1 l hfl D cA ga φ H.size az tn tk tm tg sc ar w ez o o (nI (x % 8)) ((-1 : Int32)) (nI 0) hY hI hT h200 (measX_1 (Nat.mod_lt _ (by decide)) (m1R (by decide)))) (vx_cwSW 5 S.2.2.2.2 (gSW tw_261 tw_262 tw_0 tw_263) rfl rfl rfl (by decide +kernel) ⟨Nat.le_of_ble_eq_true rfl, Nat.le_of_ble_eq_true rfl⟩) (pre0_S hH hK hX hS hA) rfl rfl hl.1 rfl (lv_room (Nat.le_of_ble_eq_true rfl)) dL_isRefused_536 ⟨Nat.le_trans (show _ ≤ 2600 by omega) (Nat.le_of_ble_eq_true rfl), Nat.le_trans (show _ ≤ 17000 by omega) (Nat.le_of_ble_eq_true rfl)⟩) hS (af_le hH hS hA) (fun v_66 φ_67 H locs hw_v_66 hH hS => ?_)
  obtain ⟨rfl, hqv_66⟩ := hw_v_66
  rw [hqv_66] at hH
  refine lv_ldc (pc := 539) (v := (-16820000 : Int32)) S.1 S.2.1 S.2.2.2.1 (S.2.2.2.2 _ tw_886) dL_isRefused_539 ?_
  refine lv_icmp_ne (pc := 541) (tgt := 643) S.1 S.2.1 dL_isRefused_541 (by decide) (fun c9 => absurd c9 (fun h9 => h9 rfl)) (fun c_68 => ?_)
  refine lv_aload_n (pc := 544) S.1 S.2.1 dL_isRefused_544 rfl (lv_at hl 8 rfl) ?_
  refine lv_bipush (pc := 545) (v := nI 16) S.1 S.2.1 dL_isRefused_545 (by decide) ?_
  refine lv_iload (pc := 547) S.1 S.2.1 dL_isRefused_547 (lv_at hl 6 rfl) ?_
  refine lv_iconst (pc := 549) (v := nI 0) S.1 S.2.1 dL_isRefused_549 (by decide) ?_
  refine lv_iconst (pc := 550) (v := nI 0) S.1 S.2.1 dL_isRefused_550 (by decide) ?_
  refine hv_call (pc := 551) (vx_runSW (As := [.ref (az 0), .int (nI 16), .int ((-1 : Int32) - nI (x % 30)), .int (nI 0), .int (nI 0)]) (rest := []) S (ax_fits_3 l hfl D cA ga φ H.size az tn tk tm tg sc ar w ez o o ((-1 : Int32) - nI (x % 30)) (nI 0) (nI 0) hY hI hT h200 (inX_3 hcone)) (vx_cwSW 5 S.2.2.2.2 (gSW tw_261 tw_262 tw_0 tw_263) rfl rfl rfl (by decide +kernel) ⟨Nat.le_of_ble_eq_true rfl, Nat.le_of_ble_eq_true rfl⟩) (pre0_S hH hK hX hS hA) rfl rfl hl.1 rfl (lv_room (Nat.le_of_ble_eq_true rfl)) dL_isRefused_551 ⟨Nat.le_trans (show _ ≤ 2600 by omega) (Nat.le_of_ble_eq_true rfl), Nat.le_trans (show _ ≤ 17000 by omega) (Nat.le_of_ble_eq_true rfl)⟩) hS (af_le hH hS hA) (fun v_69 φ_70 H locs hw_v_69 hH hS => ?_)
  obtain ⟨rfl, hqv_69⟩ := hw_v_69
  rw [hqv_69] at hH
  refine lv_ldc (pc := 554) (v := (-16810000 : Int32)) S.1 S.2.1 S.2.2.2.1 (S.2.2.2.2 _ tw_885) dL_isRefused_554 ?_
  refine lv_icmp_ne (pc := 556) (tgt := 643) S.1 S.2.1 dL_isRefused_556 (by decide) (fun c9 => absurd c9 (fun h9 => h9 rfl)) (fun c_71 => ?_)
  refine lv_aload_n (pc := 559) S.1 S.2.1 dL_isRefused_559 rfl (lv_at hl 8 rfl) ?_
  refine lv_bipush (pc := 560) (v := nI 17) S.1 S.2.1 dL_isRefused_560 (by decide) ?_
  refine lv_iload (pc := 562) S.1 S.2.1 dL_isRefused_562 (lv_at hl 7 rfl) ?_
  refine hv_if_eq (pc := 564) (tgt := 576) (a := 1) S.1 S.2.1 (by omega) dL_isRefused_564 (by decide) (fun c9 => absurd c9 (by omega)) (fun c_72 => ?_)
  refine lv_iconst (pc := 567) (v := (-1 : Int32)) S.1 S.2.1 dL_isRefused_567 (by decide) ?_
  refine lv_iload_n (pc := 568) S.1 S.2.1 dL_isRefused_568 rfl (lv_at hl 11 rfl) ?_
  refine lv_bipush (pc := 569) (v := nI 30) S.1 S.2.1 dL_isRefused_569 (by decide) ?_
  refine lv_irem (pc := 571) S.1 S.2.1 dL_isRefused_571 (by decide) ?_
  refine hv_ti (y := nI (x % 30)) (pk_rem (by omega) (by omega) (by omega)) ?_
  refine lv_isub (pc := 572) S.1 S.2.1 dL_isRefused_572 ?_
  refine lv_goto (pc := 573) (tgt := 577) S.1 S.2.1 dL_isRefused_573 (by decide) ?_
  refine lv_iconst (pc := 577) (v := nI 0) S.1 S.2.1 dL_isRefused_577 (by decide) ?_
  refine lv_iconst (pc := 578) (v := nI 0) S.1 S.2.1 dL_isRefused_578 (by decide) ?_
  refine hv_call (pc := 579) (vx_runSW (As := [.ref (az 0), .int (nI 17), .int ((-1 : Int32) - nI (x % 30)), .int (nI 0), .int (nI 0)]) (rest := []) S (ax_size_3 l hfl D cA ga φ H.size az tn tk tm tg sc ar w ez o o ((-1 : Int32) - nI (x % 30)) (nI 0) (nI 0) hY hI hT h200 (inX_3 (lowN hz30))) (vx_cwSW 5 S.2.2.2.2 (gSW tw_261 tw_262 tw_0 tw_263) rfl rfl rfl (by decide +kernel) ⟨Nat.le_of_ble_eq_true rfl, Nat.le_of_ble_eq_true rfl⟩) (pre0_S hH hK hX hS hA) rfl rfl hl.1 rfl (lv_room (Nat.le_of_ble_eq_true rfl)) dL_isRefused_579 ⟨Nat.le_trans (show _ ≤ 2600 by omega) (Nat.le_of_ble_eq_true rfl), Nat.le_trans (show _ ≤ 17000 by omega) (Nat.le_of_ble_eq_true rfl)⟩) hS (af_le hH hS hA) (fun v_73 φ_74 H locs hw_v_73 hH hS => ?_)
  obtain ⟨rfl, hqv_73⟩ := hw_v_73
  rw [hqv_73] at hH
  refine lv_ldc (pc := 582) (v := (-16810000 : Int32)) S.1 S.2.1 S.2.2.2.1 (S.2.2.2.2 _ tw_885) dL_isRefused_582 ?_
  refine lv_icmp_ne (pc := 584) (tgt := 643) S.1 S.2.1 dL_isRefused_584 (by decide) (fun c9 => absurd c9 (fun h9 => h9 rfl)) (fun c_75 => ?_)
  refine lv_aload_n (pc := 587) S.1 S.2.1 dL_isRefused_587 rfl (lv_at hl 8 rfl) ?_
  refine lv_bipush (pc := 588) (v := nI 18) S.1 S.2.1 dL_isRefused_588 (by decide) ?_
  refine lv_iload (pc := 590) S.1 S.2.1 dL_isRefused_590 (lv_at hl 3 rfl) ?_
  refine lv_iconst (pc := 592) (v := nI 0) S.1 S.2.1 dL_isRefused_592 (by decide) ?_
  refine lv_iconst (pc := 593) (v := nI 0) S.1 S.2.1 dL_isRefused_593 (by decide) ?_
  refine hv_call (pc := 594) (vx_runSW (As := [.ref (az 0), .int (nI 18), .int ((-1 : Int32) - nI (x % 30)), .int (nI 0), .int (nI 0)]) (rest := []) S (ax_air_3 l hfl D cA ga φ H.size az tn tk tm tg sc ar w ez o o ((-1 : Int32) - nI (x % 30)) (nI 0) hY hI hT h200 (inX_3 hhand)) (vx_cwSW 5 S.2.2.2.2 (gSW tw_261 tw_262 tw_0 tw_263) rfl rfl rfl (by decide +kernel) ⟨Nat.le_of_ble_eq_true rfl, Nat.le_of_ble_eq_true rfl⟩) (pre0_S hH hK hX hS hA) rfl rfl hl.1 rfl (lv_room (Nat.le_of_ble_eq_true rfl)) dL_isRefused_594 ⟨Nat.le_trans (show _ ≤ 2600 by omega) (Nat.le_of_ble_eq_true rfl), Nat.le_trans (show _ ≤ 17000 by omega) (Nat.le_of_ble_eq_true rfl)⟩) hS (af_le hH hS hA) (fun v_76 φ_77 H locs hw_v_76 hH hS => ?_)
  obtain ⟨rfl, hqv_76⟩ := hw_v_76
  rw [hqv_76] at hH
  refine lv_ldc (pc := 597) (v := (-16810000 : Int32)) S.1 S.2.1 S.2.2.2.1 (S.2.2.2.2 _ tw_885) dL_isRefused_597 ?_
  refine lv_icmp_ne (pc := 599) (tgt := 643) S.1 S.2.1 dL_isRefused_599 (by decide) (fun c9 => absurd c9 (fun h9 => h9 rfl)) (fun c_78 => ?_)
  refine lv_aload_n (pc := 602) S.1 S.2.1 dL_isRefused_602 rfl (lv_at hl 8 rfl) ?_
  refine lv_bipush (pc := 603) (v := nI 19) S.1 S.2.1 dL_isRefused_603 (by decide) ?_
  refine lv_iload (pc := 605) S.1 S.2.1 dL_isRefused_605 (lv_at hl 5 rfl) ?_
  refine lv_iconst (pc := 607) (v := nI 0) S.1 S.2.1 dL_isRefused_607 (by decide) ?_
  refine lv_iconst (pc := 608) (v := nI 0) S.1 S.2.1 dL_isRefused_608 (by decide) ?_
  refine hv_call (pc := 609) (vx_runSW (As := [.ref (az 0), .int (nI 19), .int ((-1 : Int32) - nI (x % 30)), .int (nI 0), .int (nI 0)]) (rest := []) S (ax_grams_3 l hfl D cA ga φ H.size az tn tk tm tg sc ar w ez o o ((-1 : Int32) - nI (x % 30)) (nI 0) (nI 0) hY hI hT h200 (inX_3 hlot)) (vx_cwSW 5 S.2.2.2.2 (gSW tw_261 tw_262 tw_0 tw_263) rfl rfl rfl (by decide +kernel) ⟨Nat.le_of_ble_eq_true rfl, Nat.le_of_ble_eq_true rfl⟩) (pre0_S hH hK hX hS hA) rfl rfl hl.1 rfl (lv_room (Nat.le_of_ble_eq_true rfl)) dL_isRefused_609 ⟨Nat.le_trans (show _ ≤ 2600 by omega) (Nat.le_of_ble_eq_true rfl), Nat.le_trans (show _ ≤ 17000 by omega) (Nat.le_of_ble_eq_true rfl)⟩) hS (af_le hH hS hA) (fun v_79 φ_80 H locs hw_v_79 hH hS => ?_)
  obtain ⟨rfl, hqv_79⟩ := hw_v_79
  rw [hqv_79] at hH
  refine lv_ldc (pc := 612) (v := (-16810000 : Int32)) S.1 S.2.1 S.2.2.2.1 (S.2.2.2.2 _ tw_885) dL_isRefused_612 ?_
  refine lv_icmp_ne (pc := 614) (tgt := 643) S.1 S.2.1 dL_isRefused_614 (by decide) (fun c9 => absurd c9 (fun h9 => h9 rfl)) (fun c_81 => ?_)
  refine lv_aload_n (pc := 617) S.1 S.2.1 dL_isRefused_617 rfl (lv_at hl 9 rfl) ?_
  refine lv_iconst (pc := 618) (v := nI 5) S.1 S.2.1 dL_isRefused_618 (by decide) ?_
  refine hv_iald (pc := 619) S hK hH 1 (hY.a0) rfl (vp_in_nI (show 5 < 6 by omega) (by omega)) dL_isRefused_619 ?_
  refine hv_ti (y := nI ((o 0) 5)) (hv_ld (by omega)) ?_
  refine hv_ti (y := nI tk) (by rw [h5]) ?_
  refine lv_bipush (pc := 620) (v := nI 7) S.1 S.2.1 dL_isRefused_620 (by decide) ?_
  have h639 : ∀ (ls : Array Slot) (H : Heap) (locs : List Loc), hp D (Af φ sz) φ H → va_S (Af φ sz) s.heap H locs → lv_has ls 16 [(11, .long (allF sc ar w ez o)), (10, .int (nI 0 - nI (x % 30))), (9, .int ((-1 : Int32) - nI (x % 30))), (8, .int ((-1 : Int32) - nI (x % 30))), (7, .int ((-1 : Int32) - nI (x % 30))), (6, .int ((-1 : Int32) - nI (x % 30))), (5, .int ((-1 : Int32) - nI (x % 30))), (4, .int (nI 1)), (0, .ref (az 0)), (1, .ref (az 9)), (2, .ref (az 10)), (3, .int (nI x))] → W p l e { frames := 16, cells := 2600, slots := 17000, locals := 680 } s m args below meth c H locs (835) (4999) (MQ below (hQ (fun v φ' => v = some (.int (nI 1)) ∧ φ' = φ) D (Af φ sz)) args s 2600 17000 (Af φ sz)) (F0 m 639 ls []) := by
    intro ls H locs hH hS hl
    refine lv_iconst (pc := 639) (v := nI 1) S.1 S.2.1 dL_isRefused_639 (by decide) ?_
    refine lv_goto (pc := 640) (tgt := 644) S.1 S.2.1 dL_isRefused_640 (by decide) ?_
    refine lv_istore (pc := 644) (lv' := [(13, .int (nI 1)), (11, .long (allF sc ar w ez o)), (10, .int (nI 0 - nI (x % 30))), (9, .int ((-1 : Int32) - nI (x % 30))), (8, .int ((-1 : Int32) - nI (x % 30))), (7, .int ((-1 : Int32) - nI (x % 30))), (6, .int ((-1 : Int32) - nI (x % 30))), (5, .int ((-1 : Int32) - nI (x % 30))), (4, .int (nI 1)), (0, .ref (az 0)), (1, .ref (az 9)), (2, .ref (az 10)), (3, .int (nI x))]) S.1 S.2.1 dL_isRefused_644 hl (by decide) rfl (fun ls hl => ?_)
    refine lv_iconst (pc := 646) (v := nI 0) S.1 S.2.1 dL_isRefused_646 (by decide) ?_
    refine lv_istore (pc := 647) (lv' := [(14, .int (nI 0)), (13, .int (nI 1)), (11, .long (allF sc ar w ez o)), (10, .int (nI 0 - nI (x % 30))), (9, .int ((-1 : Int32) - nI (x % 30))), (8, .int ((-1 : Int32) - nI (x % 30))), (7, .int ((-1 : Int32) - nI (x % 30))), (6, .int ((-1 : Int32) - nI (x % 30))), (5, .int ((-1 : Int32) - nI (x % 30))), (4, .int (nI 1)), (0, .ref (az 0)), (1, .ref (az 9)), (2, .ref (az 10)), (3, .int (nI x))]) S.1 S.2.1 dL_isRefused_647 hl (by decide) rfl (fun ls hl => ?_)
    have hg : ∃ n k : Nat, (k + n = sc 2) ∧ lv_has ls 16 [(14, .int (nI k)), (13, .int (nI 1)), (11, .long (allF sc ar w ez o)), (10, .int (nI 0 - nI (x % 30))), (9, .int ((-1 : Int32) - nI (x % 30))), (8, .int ((-1 : Int32) - nI (x % 30))), (7, .int ((-1 : Int32) - nI (x % 30))), (6, .int ((-1 : Int32) - nI (x % 30))), (5, .int ((-1 : Int32) - nI (x % 30))), (4, .int (nI 1)), (0, .ref (az 0)), (1, .ref (az 9)), (2, .ref (az 10)), (3, .int (nI x))] := ⟨sc 2, 0, by omega, lv_sub hl [0, 1, 2, 3, 4, 5, 6, 7, 8, 9, 10, 11, 12, 13] rfl⟩
    clear hl
    try clear hHz
    obtain ⟨n, k, hi, hl⟩ := hg
    refine W.widen (k := 835 + 29 * k) (n := 4999 + 177 * k) (by omega) (by omega) ?_
    induction n generalizing ls H locs k with
    | zero =>
      have hkN : k = sc 2 := by omega
      refine lv_iload (pc := 649) S.1 S.2.1 dL_isRefused_649 (lv_at hl 0 rfl) ?_
      refine lv_aload_n (pc := 651) S.1 S.2.1 dL_isRefused_651 rfl (lv_at hl 11 rfl) ?_
      refine lv_iconst (pc := 652) (v := nI 0) S.1 S.2.1 dL_isRefused_652 (by decide) ?_
      refine hv_iald (pc := 653) S hK hH 1 (hY.a0) rfl (vp_in_nI (show 0 < 6 by omega) (by omega)) dL_isRefused_653 ?_
      refine hv_ti (y := nI ((o 0) 0)) (hv_ld (by omega)) ?_
      refine hv_ti (y := nI (sc 2)) (by rw [hm.1]) ?_
      refine hv_icmp_ge (pc := 654) (tgt := 770) (a := k) (b := sc 2) S.1 S.2.1 (by omega) (by omega) dL_isRefused_654 (by decide) (fun c_82 => ?_) (fun c9 => absurd c9 (by omega))
      refine lv_iconst (pc := 770) (v := nI 0) S.1 S.2.1 dL_isRefused_770 (by decide) ?_
      refine lv_istore (pc := 771) (lv' := [(14, .int (nI 0)), (13, .int (nI 1)), (11, .long (allF sc ar w ez o)), (10, .int (nI 0 - nI (x % 30))), (9, .int ((-1 : Int32) - nI (x % 30))), (8, .int ((-1 : Int32) - nI (x % 30))), (7, .int ((-1 : Int32) - nI (x % 30))), (6, .int ((-1 : Int32) - nI (x % 30))), (5, .int ((-1 : Int32) - nI (x % 30))), (4, .int (nI 1)), (0, .ref (az 0)), (1, .ref (az 9)), (2, .ref (az 10)), (3, .int (nI x))]) S.1 S.2.1 dL_isRefused_771 hl (by decide) rfl (fun ls hl => ?_)
      clear hi
      have hg : ∃ n k : Nat, (k + n = sc 3) ∧ lv_has ls 16 [(14, .int (nI k)), (13, .int (nI 1)), (11, .long (allF sc ar w ez o)), (10, .int (nI 0 - nI (x % 30))), (9, .int ((-1 : Int32) - nI (x % 30))), (8, .int ((-1 : Int32) - nI (x % 30))), (7, .int ((-1 : Int32) - nI (x % 30))), (6, .int ((-1 : Int32) - nI (x % 30))), (5, .int ((-1 : Int32) - nI (x % 30))), (4, .int (nI 1)), (0, .ref (az 0)), (1, .ref (az 9)), (2, .ref (az 10)), (3, .int (nI x))] := ⟨sc 3, 0, by omega, lv_sub hl [0, 1, 2, 3, 4, 5, 6, 7, 8, 9, 10, 11, 12, 13] rfl⟩
      clear hl
      try clear hHz
      obtain ⟨n, k, hi, hl⟩ := hg
      refine W.widen (k := 1125 + 40 * k) (n := 6769 + 240 * k) (by omega) (by omega) ?_
      induction n generalizing ls H locs k with
      | zero =>
        have hkN : k = sc 3 := by omega
        refine lv_iload (pc := 773) S.1 S.2.1 dL_isRefused_773 (lv_at hl 0 rfl) ?_
        refine lv_aload_n (pc := 775) S.1 S.2.1 dL_isRefused_775 rfl (lv_at hl 11 rfl) ?_
        refine lv_iconst (pc := 776) (v := nI 1) S.1 S.2.1 dL_isRefused_776 (by decide) ?_
        refine hv_iald (pc := 777) S hK hH 1 (hY.a0) rfl (vp_in_nI (show 1 < 6 by omega) (by omega)) dL_isRefused_777 ?_
        refine hv_ti (y := nI ((o 0) 1)) (hv_ld (by omega)) ?_
        refine hv_ti (y := nI (sc 3)) (by rw [hm.2.1]) ?_
        refine hv_icmp_ge (pc := 778) (tgt := 1001) (a := k) (b := sc 3) S.1 S.2.1 (by omega) (by omega) dL_isRefused_778 (by decide) (fun c_83 => ?_) (fun c9 => absurd c9 (by omega))
        refine lv_iload (pc := 1001) S.1 S.2.1 dL_isRefused_1001 (lv_at hl 1 rfl) ?_
        refine hv_if_eq (pc := 1003) (tgt := 1108) (a := 1) S.1 S.2.1 (by omega) dL_isRefused_1003 (by decide) (fun c9 => absurd c9 (by omega)) (fun c_84 => ?_)
        refine lv_aload_n (pc := 1006) S.1 S.2.1 dL_isRefused_1006 rfl (lv_at hl 11 rfl) ?_
        refine lv_iconst (pc := 1007) (v := nI 0) S.1 S.2.1 dL_isRefused_1007 (by decide) ?_
        refine hv_iald (pc := 1008) S hK hH 1 (hY.a0) rfl (vp_in_nI (show 0 < 6 by omega) (by omega)) dL_isRefused_1008 ?_
        refine hv_ti (y := nI ((o 0) 0)) (hv_ld (by omega)) ?_
        refine hv_ti (y := nI (sc 2)) (by rw [hm.1]) ?_
        refine lv_bipush (pc := 1009) (v := nI 10) S.1 S.2.1 dL_isRefused_1009 (by decide) ?_
        have h1027 : ∀ (ls : Array Slot) (H : Heap) (locs : List Loc), hp D (Af φ sz) φ H → va_S (Af φ sz) s.heap H locs → lv_has ls 16 [(11, .long (allF sc ar w ez o)), (0, .ref (az 0)), (1, .ref (az 9)), (2, .ref (az 10)), (3, .int (nI x))] → W p l e { frames := 16, cells := 2600, slots := 17000, locals := 680 } s m args below meth c H locs (1608) (9663) (MQ below (hQ (fun v φ' => v = some (.int (nI 1)) ∧ φ' = φ) D (Af φ sz)) args s 2600 17000 (Af φ sz)) (F0 m 1027 ls []) := by
          intro ls H locs hH hS hl
          refine lv_aload_n (pc := 1027) S.1 S.2.1 dL_isRefused_1027 rfl (lv_at hl 2 rfl) ?_
          refine lv_iconst (pc := 1028) (v := nI 2) S.1 S.2.1 dL_isRefused_1028 (by decide) ?_
          refine hv_iald (pc := 1029) S hK hH 1 (hY.a0) rfl (vp_in_nI (show 2 < 6 by omega) (by omega)) dL_isRefused_1029 ?_
          refine hv_ti (y := nI ((o 0) 2)) (hv_ld (by omega)) ?_
          refine hv_ti (y := nI (sc 4)) (by rw [hm.2.2.1]) ?_
          refine lv_bipush (pc := 1030) (v := nI 8) S.1 S.2.1 dL_isRefused_1030 (by decide) ?_
          have h1050 : ∀ (ls : Array Slot) (H : Heap) (locs : List Loc), hp D (Af φ sz) φ H → va_S (Af φ sz) s.heap H locs → lv_has ls 16 [(11, .long (allF sc ar w ez o)), (0, .ref (az 0)), (1, .ref (az 9)), (2, .ref (az 10)), (3, .int (nI x))] → W p l e { frames := 16, cells := 2600, slots := 17000, locals := 680 } s m args below meth c H locs (1612) (9683) (MQ below (hQ (fun v φ' => v = some (.int (nI 1)) ∧ φ' = φ) D (Af φ sz)) args s 2600 17000 (Af φ sz)) (F0 m 1050 ls []) := by
            intro ls H locs hH hS hl
            refine lv_aload_n (pc := 1050) S.1 S.2.1 dL_isRefused_1050 rfl (lv_at hl 2 rfl) ?_
            refine lv_iconst (pc := 1051) (v := nI 3) S.1 S.2.1 dL_isRefused_1051 (by decide) ?_
            refine hv_iald (pc := 1052) S hK hH 1 (hY.a0) rfl (vp_in_nI (show 3 < 6 by omega) (by omega)) dL_isRefused_1052 ?_
            refine hv_ti (y := nI ((o 0) 3)) (hv_ld (by omega)) ?_
            refine hv_ti (y := nI (sc 5)) (by rw [hm.2.2.2.1]) ?_
            refine lv_bipush (pc := 1053) (v := nI 6) S.1 S.2.1 dL_isRefused_1053 (by decide) ?_
            have h1071 : ∀ (ls : Array Slot) (H : Heap) (locs : List Loc), hp D (Af φ sz) φ H → va_S (Af φ sz) s.heap H locs → lv_has ls 16 [(11, .long (allF sc ar w ez o)), (0, .ref (az 0)), (1, .ref (az 9)), (2, .ref (az 10)), (3, .int (nI x))] → W p l e { frames := 16, cells := 2600, slots := 17000, locals := 680 } s m args below meth c H locs (1614) (9691) (MQ below (hQ (fun v φ' => v = some (.int (nI 1)) ∧ φ' = φ) D (Af φ sz)) args s 2600 17000 (Af φ sz)) (F0 m 1071 ls []) := by
              intro ls H locs hH hS hl
              refine lv_aload_n (pc := 1071) S.1 S.2.1 dL_isRefused_1071 rfl (lv_at hl 2 rfl) ?_
              refine lv_iconst (pc := 1072) (v := nI 1) S.1 S.2.1 dL_isRefused_1072 (by decide) ?_
              refine hv_iald (pc := 1073) S hK hH 1 (hY.a0) rfl (vp_in_nI (show 1 < 6 by omega) (by omega)) dL_isRefused_1073 ?_
              refine hv_ti (y := nI ((o 0) 1)) (hv_ld (by omega)) ?_
              refine hv_ti (y := nI (sc 3)) (by rw [hm.2.1]) ?_
              refine lv_bipush (pc := 1074) (v := nI 12) S.1 S.2.1 dL_isRefused_1074 (by decide) ?_
              have h1093 : ∀ (ls : Array Slot) (H : Heap) (locs : List Loc), hp D (Af φ sz) φ H → va_S (Af φ sz) s.heap H locs → lv_has ls 16 [(11, .long (allF sc ar w ez o)), (0, .ref (az 0)), (1, .ref (az 9)), (2, .ref (az 10)), (3, .int (nI x))] → W p l e { frames := 16, cells := 2600, slots := 17000, locals := 680 } s m args below meth c H locs (1623) (9746) (MQ below (hQ (fun v φ' => v = some (.int (nI 1)) ∧ φ' = φ) D (Af φ sz)) args s 2600 17000 (Af φ sz)) (F0 m 1093 ls []) := by
                intro ls H locs hH hS hl
                refine lv_aload_n (pc := 1093) S.1 S.2.1 dL_isRefused_1093 rfl (lv_at hl 1 rfl) ?_
                refine lv_aload_n (pc := 1094) S.1 S.2.1 dL_isRefused_1094 rfl (lv_at hl 2 rfl) ?_
                refine hv_call (pc := 1095) (va_runS (As := [.ref (az 0), .ref (az 9)]) (rest := []) S (l_all l hfl D cA ga φ H.size az tn tk tm tg sc ar w ez o hY hI hT) (va_cwS 2 S.2.2.2.2 (gS tw_891 tw_892 tw_0 tw_893) rfl rfl rfl (by decide +kernel) ⟨Nat.le_of_ble_eq_true rfl, Nat.le_of_ble_eq_true rfl⟩) (pre0_S hH hK hX hS hA) rfl rfl hl.1 rfl (lv_room (Nat.le_of_ble_eq_true rfl)) dL_isRefused_1095 ⟨Nat.le_trans (show _ ≤ 2600 by omega) (Nat.le_of_ble_eq_true rfl), Nat.le_trans (show _ ≤ 17000 by omega) (Nat.le_of_ble_eq_true rfl)⟩) hS (af_le hH hS hA) (fun v_85 φ_86 H locs hw_v_85 hH hS => ?_)
                obtain ⟨rfl, hqv_85⟩ := hw_v_85
                rw [hqv_85] at hH
                refine lv_lload (pc := 1098) S.1 S.2.1 dL_isRefused_1098 (lv_at hl 0 rfl) ?_
                refine W.lcmp S.1 S.2.1 dL_isRefused_1100 ?_
                refine hv_ti (y := nI 0) (lgc _) ?_
                refine hv_if_ne (pc := 1101) (tgt := 1108) (a := 0) S.1 S.2.1 (by omega) dL_isRefused_1101 (by decide) (fun c9 => absurd c9 (by omega)) (fun c_87 => ?_)
                refine lv_iconst (pc := 1104) (v := nI 1) S.1 S.2.1 dL_isRefused_1104 (by decide) ?_
                refine lv_goto (pc := 1105) (tgt := 1109) S.1 S.2.1 dL_isRefused_1105 (by decide) ?_
                exact hv_ret (pc := 1109) (v := nI 1) S hr rfl hlocks hH hS (⟨rfl, rfl⟩) (by omega) (by omega) dL_isRefused_1109
              by_cases h8 : sc 3 < 12
              · skip
                refine hv_icmp_lt (pc := 1076) (tgt := 1093) (a := sc 3) (b := 12) S.1 S.2.1 (by omega) (by omega) dL_isRefused_1076 (by decide) (fun c_88 => ?_) (fun c9 => absurd c9 (by omega))
                refine W.widen (k := 1623) (n := 9746) (by omega) (by omega) ?_
                exact h1093 ls H locs hH hS (lv_sub hl [0, 1, 2, 3, 4] rfl)
              · skip
                refine hv_icmp_lt (pc := 1076) (tgt := 1093) (a := sc 3) (b := 12) S.1 S.2.1 (by omega) (by omega) dL_isRefused_1076 (by decide) (fun c9 => absurd c9 (by omega)) (fun c_89 => ?_)
                have h9 : 12 ≤ sc 3 := by omega
                refine lv_aload_n (pc := 1079) S.1 S.2.1 dL_isRefused_1079 rfl (lv_at hl 1 rfl) ?_
                refine lv_iconst (pc := 1080) (v := nI 2) S.1 S.2.1 dL_isRefused_1080 (by decide) ?_
                refine lv_iconst (pc := 1081) (v := nI 0) S.1 S.2.1 dL_isRefused_1081 (by decide) ?_
                refine lv_bipush (pc := 1082) (v := nI 10) S.1 S.2.1 dL_isRefused_1082 (by decide) ?_
                refine lv_iconst (pc := 1084) (v := nI 0) S.1 S.2.1 dL_isRefused_1084 (by decide) ?_
                refine hv_call (pc := 1085) (vx_runSW (As := [.ref (az 0), .int (nI 2), .int (nI 0), .int (nI 10), .int (nI 0)]) (rest := []) S (ax_cone_2 l hfl D cA ga φ H.size az tn tk tm tg sc ar w ez o o (nI 0) (nI 10) (nI 0) hY hI hT h200 (coneX_2 (hm.2.2.2.2.2 (by omega)) (by omega) (by decide) (by decide) (by decide) (Or.inr h9))) (vx_cwSW 5 S.2.2.2.2 (gSW tw_261 tw_262 tw_0 tw_263) rfl rfl rfl (by decide +kernel) ⟨Nat.le_of_ble_eq_true rfl, Nat.le_of_ble_eq_true rfl⟩) (pre0_S hH hK hX hS hA) rfl rfl hl.1 rfl (lv_room (Nat.le_of_ble_eq_true rfl)) dL_isRefused_1085 ⟨Nat.le_trans (show _ ≤ 2600 by omega) (Nat.le_of_ble_eq_true rfl), Nat.le_trans (show _ ≤ 17000 by omega) (Nat.le_of_ble_eq_true rfl)⟩) hS (af_le hH hS hA) (fun v_90 φ_91 H locs hw_v_90 hH hS => ?_)
                obtain ⟨rfl, hqv_90⟩ := hw_v_90
                rw [hqv_90] at hH
                refine lv_ldc (pc := 1088) (v := (-16830000 : Int32)) S.1 S.2.1 S.2.2.2.1 (S.2.2.2.2 _ tw_887) dL_isRefused_1088 ?_
                refine lv_icmp_ne (pc := 1090) (tgt := 1108) S.1 S.2.1 dL_isRefused_1090 (by decide) (fun c9 => absurd c9 (fun h9 => h9 rfl)) (fun c_92 => ?_)
                refine W.widen (k := 1623) (n := 9746) (by omega) (by omega) ?_
                exact h1093 ls H locs hH hS (lv_sub hl [0, 1, 2, 3, 4] rfl)
            by_cases h8 : sc 5 < 6
            · skip
              refine hv_icmp_lt (pc := 1055) (tgt := 1071) (a := sc 5) (b := 6) S.1 S.2.1 (by omega) (by omega) dL_isRefused_1055 (by decide) (fun c_93 => ?_) (fun c9 => absurd c9 (by omega))
              refine W.widen (k := 1614) (n := 9691) (by omega) (by omega) ?_
              exact h1071 ls H locs hH hS (lv_sub hl [0, 1, 2, 3, 4] rfl)
            · skip
              refine hv_icmp_lt (pc := 1055) (tgt := 1071) (a := sc 5) (b := 6) S.1 S.2.1 (by omega) (by omega) dL_isRefused_1055 (by decide) (fun c9 => absurd c9 (by omega)) (fun c_94 => ?_)
              have h9 : 6 ≤ sc 5 := by omega
              refine lv_aload_n (pc := 1058) S.1 S.2.1 dL_isRefused_1058 rfl (lv_at hl 1 rfl) ?_
              refine lv_iconst (pc := 1059) (v := nI 3) S.1 S.2.1 dL_isRefused_1059 (by decide) ?_
              refine lv_iconst (pc := 1060) (v := nI 0) S.1 S.2.1 dL_isRefused_1060 (by decide) ?_
              refine lv_iconst (pc := 1061) (v := nI 0) S.1 S.2.1 dL_isRefused_1061 (by decide) ?_
              refine lv_iconst (pc := 1062) (v := nI 0) S.1 S.2.1 dL_isRefused_1062 (by decide) ?_
              refine hv_call (pc := 1063) (vx_runSW (As := [.ref (az 0), .int (nI 3), .int (nI 0), .int (nI 0), .int (nI 0)]) (rest := []) S (ax_hand_2 l hfl D cA ga φ H.size az tn tk tm tg sc ar w ez o o (nI 0) (nI 0) (nI 0) hY hI hT h200 (handX_2 h9)) (vx_cwSW 5 S.2.2.2.2 (gSW tw_261 tw_262 tw_0 tw_263) rfl rfl rfl (by decide +kernel) ⟨Nat.le_of_ble_eq_true rfl, Nat.le_of_ble_eq_true rfl⟩) (pre0_S hH hK hX hS hA) rfl rfl hl.1 rfl (lv_room (Nat.le_of_ble_eq_true rfl)) dL_isRefused_1063 ⟨Nat.le_trans (show _ ≤ 2600 by omega) (Nat.le_of_ble_eq_true rfl), Nat.le_trans (show _ ≤ 17000 by omega) (Nat.le_of_ble_eq_true rfl)⟩) hS (af_le hH hS hA) (fun v_95 φ_96 H locs hw_v_95 hH hS => ?_)
              obtain ⟨rfl, hqv_95⟩ := hw_v_95
              rw [hqv_95] at hH
              refine lv_ldc (pc := 1066) (v := (-16830000 : Int32)) S.1 S.2.1 S.2.2.2.1 (S.2.2.2.2 _ tw_887) dL_isRefused_1066 ?_
              refine lv_icmp_ne (pc := 1068) (tgt := 1108) S.1 S.2.1 dL_isRefused_1068 (by decide) (fun c9 => absurd c9 (fun h9 => h9 rfl)) (fun c_97 => ?_)
              refine W.widen (k := 1614) (n := 9691) (by omega) (by omega) ?_
              exact h1071 ls H locs hH hS (lv_sub hl [0, 1, 2, 3, 4] rfl)
          by_cases h8 : sc 4 < 8
          · skip
            refine hv_icmp_lt (pc := 1032) (tgt := 1050) (a := sc 4) (b := 8) S.1 S.2.1 (by omega) (by omega) dL_isRefused_1032 (by decide) (fun c_98 => ?_) (fun c9 => absurd c9 (by omega))
            refine W.widen (k := 1612) (n := 9683) (by omega) (by omega) ?_
            exact h1050 ls H locs hH hS (lv_sub hl [0, 1, 2, 3, 4] rfl)
          · skip
            refine hv_icmp_lt (pc := 1032) (tgt := 1050) (a := sc 4) (b := 8) S.1 S.2.1 (by omega) (by omega) dL_isRefused_1032 (by decide) (fun c9 => absurd c9 (by omega)) (fun c_99 => ?_)
            have h9 : 8 ≤ sc 4 := by omega
            refine lv_aload_n (pc := 1035) S.1 S.2.1 dL_isRefused_1035 rfl (lv_at hl 1 rfl) ?_
            refine lv_iconst (pc := 1036) (v := nI 5) S.1 S.2.1 dL_isRefused_1036 (by decide) ?_
            refine lv_sipush (pc := 1037) (v := nI 500) S.1 S.2.1 dL_isRefused_1037 (by decide) ?_
            refine lv_iconst (pc := 1040) (v := nI 3) S.1 S.2.1 dL_isRefused_1040 (by decide) ?_
            refine lv_iconst (pc := 1041) (v := nI 0) S.1 S.2.1 dL_isRefused_1041 (by decide) ?_
            refine hv_call (pc := 1042) (vx_runSW (As := [.ref (az 0), .int (nI 5), .int (nI 500), .int (nI 3), .int (nI 0)]) (rest := []) S (ax_block_2 l hfl D cA ga φ H.size az tn tk tm tg sc ar w ez o o (nI 500) (nI 3) (nI 0) hY hI hT h200 (blockX_2 h9)) (vx_cwSW 5 S.2.2.2.2 (gSW tw_261 tw_262 tw_0 tw_263) rfl rfl rfl (by decide +kernel) ⟨Nat.le_of_ble_eq_true rfl, Nat.le_of_ble_eq_true rfl⟩) (pre0_S hH hK hX hS hA) rfl rfl hl.1 rfl (lv_room (Nat.le_of_ble_eq_true rfl)) dL_isRefused_1042 ⟨Nat.le_trans (show _ ≤ 2600 by omega) (Nat.le_of_ble_eq_true rfl), Nat.le_trans (show _ ≤ 17000 by omega) (Nat.le_of_ble_eq_true rfl)⟩) hS (af_le hH hS hA) (fun v_100 φ_101 H locs hw_v_100 hH hS => ?_)
            obtain ⟨rfl, hqv_100⟩ := hw_v_100
            rw [hqv_100] at hH
            refine lv_ldc (pc := 1045) (v := (-16830000 : Int32)) S.1 S.2.1 S.2.2.2.1 (S.2.2.2.2 _ tw_887) dL_isRefused_1045 ?_
            refine lv_icmp_ne (pc := 1047) (tgt := 1108) S.1 S.2.1 dL_isRefused_1047 (by decide) (fun c9 => absurd c9 (fun h9 => h9 rfl)) (fun c_102 => ?_)
            refine W.widen (k := 1612) (n := 9683) (by omega) (by omega) ?_
            exact h1050 ls H locs hH hS (lv_sub hl [0, 1, 2, 3, 4] rfl)
        by_cases h8 : sc 2 < 10
        · skip
          refine hv_icmp_lt (pc := 1011) (tgt := 1027) (a := sc 2) (b := 10) S.1 S.2.1 (by omega) (by omega) dL_isRefused_1011 (by decide) (fun c_103 => ?_) (fun c9 => absurd c9 (by omega))
          refine W.widen (k := 1608) (n := 9663) (by omega) (by omega) ?_
          exact h1027 ls H locs hH hS (lv_sub hl [2, 10, 11, 12, 13] rfl)
        · skip
          refine hv_icmp_lt (pc := 1011) (tgt := 1027) (a := sc 2) (b := 10) S.1 S.2.1 (by omega) (by omega) dL_isRefused_1011 (by decide) (fun c9 => absurd c9 (by omega)) (fun c_104 => ?_)
          have h9 : 10 ≤ sc 2 := by omega
          refine lv_aload_n (pc := 1014) S.1 S.2.1 dL_isRefused_1014 rfl (lv_at hl 10 rfl) ?_
          refine lv_iconst (pc := 1015) (v := nI 1) S.1 S.2.1 dL_isRefused_1015 (by decide) ?_
          refine lv_iconst (pc := 1016) (v := nI 5) S.1 S.2.1 dL_isRefused_1016 (by decide) ?_
          refine lv_iconst (pc := 1017) (v := nI 0) S.1 S.2.1 dL_isRefused_1017 (by decide) ?_
          refine lv_iconst (pc := 1018) (v := nI 0) S.1 S.2.1 dL_isRefused_1018 (by decide) ?_
          refine hv_call (pc := 1019) (vx_runSW (As := [.ref (az 0), .int (nI 1), .int (nI 5), .int (nI 0), .int (nI 0)]) (rest := []) S (ax_lot_2 l hfl D cA ga φ H.size az tn tk tm tg sc ar w ez o o (nI 5) (nI 0) (nI 0) hY hI hT h200 (lotX_2 h9)) (vx_cwSW 5 S.2.2.2.2 (gSW tw_261 tw_262 tw_0 tw_263) rfl rfl rfl (by decide +kernel) ⟨Nat.le_of_ble_eq_true rfl, Nat.le_of_ble_eq_true rfl⟩) (pre0_S hH hK hX hS hA) rfl rfl hl.1 rfl (lv_room (Nat.le_of_ble_eq_true rfl)) dL_isRefused_1019 ⟨Nat.le_trans (show _ ≤ 2600 by omega) (Nat.le_of_ble_eq_true rfl), Nat.le_trans (show _ ≤ 17000 by omega) (Nat.le_of_ble_eq_true rfl)⟩) hS (af_le hH hS hA) (fun v_105 φ_106 H locs hw_v_105 hH hS => ?_)
          obtain ⟨rfl, hqv_105⟩ := hw_v_105
          rw [hqv_105] at hH
          refine lv_ldc (pc := 1022) (v := (-16830000 : Int32)) S.1 S.2.1 S.2.2.2.1 (S.2.2.2.2 _ tw_887) dL_isRefused_1022 ?_
          refine lv_icmp_ne (pc := 1024) (tgt := 1108) S.1 S.2.1 dL_isRefused_1024 (by decide) (fun c9 => absurd c9 (fun h9 => h9 rfl)) (fun c_107 => ?_)
          refine W.widen (k := 1608) (n := 9663) (by omega) (by omega) ?_
          exact h1027 ls H locs hH hS (lv_sub hl [2, 10, 11, 12, 13] rfl)
      | succ n ih =>
        refine lv_iload (pc := 773) S.1 S.2.1 dL_isRefused_773 (lv_at hl 0 rfl) ?_
        refine lv_aload_n (pc := 775) S.1 S.2.1 dL_isRefused_775 rfl (lv_at hl 11 rfl) ?_
        refine lv_iconst (pc := 776) (v := nI 1) S.1 S.2.1 dL_isRefused_776 (by decide) ?_
        refine hv_iald (pc := 777) S hK hH 1 (hY.a0) rfl (vp_in_nI (show 1 < 6 by omega) (by omega)) dL_isRefused_777 ?_
        refine hv_ti (y := nI ((o 0) 1)) (hv_ld (by omega)) ?_
        refine hv_ti (y := nI (sc 3)) (by rw [hm.2.1]) ?_
        refine hv_icmp_ge (pc := 778) (tgt := 1001) (a := k) (b := sc 3) S.1 S.2.1 (by omega) (by omega) dL_isRefused_778 (by decide) (fun c9 => absurd c9 (by omega)) (fun c_108 => ?_)
        refine lv_iload (pc := 781) S.1 S.2.1 dL_isRefused_781 (lv_at hl 1 rfl) ?_
        refine hv_if_eq (pc := 783) (tgt := 1001) (a := 1) S.1 S.2.1 (by omega) dL_isRefused_783 (by decide) (fun c9 => absurd c9 (by omega)) (fun c_109 => ?_)
        have hk : k < sc 3 := by omega
        have hlc := hI.lc k
        refine lv_aload_n (pc := 786) S.1 S.2.1 dL_isRefused_786 rfl (lv_at hl 10 rfl) ?_
        refine lv_iconst (pc := 787) (v := nI 4) S.1 S.2.1 dL_isRefused_787 (by decide) ?_
        refine lv_iload (pc := 788) S.1 S.2.1 dL_isRefused_788 (lv_at hl 0 rfl) ?_
        refine lv_iload (pc := 790) S.1 S.2.1 dL_isRefused_790 (lv_at hl 5 rfl) ?_
        refine lv_iconst (pc := 792) (v := nI 0) S.1 S.2.1 dL_isRefused_792 (by decide) ?_
        refine hv_call (pc := 793) (vx_runSW (As := [.ref (az 0), .int (nI 4), .int (nI k), .int ((-1 : Int32) - nI (x % 30)), .int (nI 0)]) (rest := []) S (ax_cycle_3 l hfl D cA ga φ H.size az tn tk tm tg sc ar w ez o o (nI k) ((-1 : Int32) - nI (x % 30)) (nI 0) hY hI hT h200 (cycleX_3h hk (by omega) hhand)) (vx_cwSW 5 S.2.2.2.2 (gSW tw_261 tw_262 tw_0 tw_263) rfl rfl rfl (by decide +kernel) ⟨Nat.le_of_ble_eq_true rfl, Nat.le_of_ble_eq_true rfl⟩) (pre0_S hH hK hX hS hA) rfl rfl hl.1 rfl (lv_room (Nat.le_of_ble_eq_true rfl)) dL_isRefused_793 ⟨Nat.le_trans (show _ ≤ 2600 by omega) (Nat.le_of_ble_eq_true rfl), Nat.le_trans (show _ ≤ 17000 by omega) (Nat.le_of_ble_eq_true rfl)⟩) hS (af_le hH hS hA) (fun v_110 φ_111 H locs hw_v_110 hH hS => ?_)
        obtain ⟨rfl, hqv_110⟩ := hw_v_110
        rw [hqv_110] at hH
        refine lv_ldc (pc := 796) (v := (-16810000 : Int32)) S.1 S.2.1 S.2.2.2.1 (S.2.2.2.2 _ tw_885) dL_isRefused_796 ?_
        refine lv_icmp_ne (pc := 798) (tgt := 992) S.1 S.2.1 dL_isRefused_798 (by decide) (fun c9 => absurd c9 (fun h9 => h9 rfl)) (fun c_112 => ?_)
        refine lv_aload_n (pc := 801) S.1 S.2.1 dL_isRefused_801 rfl (lv_at hl 10 rfl) ?_
        refine lv_bipush (pc := 802) (v := nI 6) S.1 S.2.1 dL_isRefused_802 (by decide) ?_
        refine lv_iload (pc := 804) S.1 S.2.1 dL_isRefused_804 (lv_at hl 0 rfl) ?_
        refine lv_iload (pc := 806) S.1 S.2.1 dL_isRefused_806 (lv_at hl 6 rfl) ?_
        refine lv_iconst (pc := 808) (v := nI 0) S.1 S.2.1 dL_isRefused_808 (by decide) ?_
        refine hv_call (pc := 809) (vx_runSW (As := [.ref (az 0), .int (nI 6), .int (nI k), .int ((-1 : Int32) - nI (x % 30)), .int (nI 0)]) (rest := []) S (ax_draw_3 l hfl D cA ga φ H.size az tn tk tm tg sc ar w ez o o (nI k) ((-1 : Int32) - nI (x % 30)) (nI 0) hY hI hT h200 (drawX_3b hk (by omega) hblock)) (vx_cwSW 5 S.2.2.2.2 (gSW tw_261 tw_262 tw_0 tw_263) rfl rfl rfl (by decide +kernel) ⟨Nat.le_of_ble_eq_true rfl, Nat.le_of_ble_eq_true rfl⟩) (pre0_S hH hK hX hS hA) rfl rfl hl.1 rfl (lv_room (Nat.le_of_ble_eq_true rfl)) dL_isRefused_809 ⟨Nat.le_trans (show _ ≤ 2600 by omega) (Nat.le_of_ble_eq_true rfl), Nat.le_trans (show _ ≤ 17000 by omega) (Nat.le_of_ble_eq_true rfl)⟩) hS (af_le hH hS hA) (fun v_113 φ_114 H locs hw_v_113 hH hS => ?_)
        obtain ⟨rfl, hqv_113⟩ := hw_v_113
        rw [hqv_113] at hH
        refine lv_ldc (pc := 812) (v := (-16810000 : Int32)) S.1 S.2.1 S.2.2.2.1 (S.2.2.2.2 _ tw_885) dL_isRefused_812 ?_
        refine lv_icmp_ne (pc := 814) (tgt := 992) S.1 S.2.1 dL_isRefused_814 (by decide) (fun c9 => absurd c9 (fun h9 => h9 rfl)) (fun c_115 => ?_)
        refine lv_aload_n (pc := 817) S.1 S.2.1 dL_isRefused_817 rfl (lv_at hl 10 rfl) ?_
        refine lv_bipush (pc := 818) (v := nI 9) S.1 S.2.1 dL_isRefused_818 (by decide) ?_
        refine lv_iload (pc := 820) S.1 S.2.1 dL_isRefused_820 (lv_at hl 0 rfl) ?_
        refine lv_iload (pc := 822) S.1 S.2.1 dL_isRefused_822 (lv_at hl 4 rfl) ?_
        refine lv_bipush (pc := 824) (v := nI 9) S.1 S.2.1 dL_isRefused_824 (by decide) ?_
        refine hv_call (pc := 826) (vx_runSW (As := [.ref (az 0), .int (nI 9), .int (nI k), .int ((-1 : Int32) - nI (x % 30)), .int (nI 9)]) (rest := []) S (ax_about_3 l hfl D cA ga φ H.size az tn tk tm tg sc ar w ez o o (nI k) ((-1 : Int32) - nI (x % 30)) (nI 9) hY hI hT h200 (aboutX_3b hk (by omega) hsix)) (vx_cwSW 5 S.2.2.2.2 (gSW tw_261 tw_262 tw_0 tw_263) rfl rfl rfl (by decide +kernel) ⟨Nat.le_of_ble_eq_true rfl, Nat.le_of_ble_eq_true rfl⟩) (pre0_S hH hK hX hS hA) rfl rfl hl.1 rfl (lv_room (Nat.le_of_ble_eq_true rfl)) dL_isRefused_826 ⟨Nat.le_trans (show _ ≤ 2600 by omega) (Nat.le_of_ble_eq_true rfl), Nat.le_trans (show _ ≤ 17000 by omega) (Nat.le_of_ble_eq_true rfl)⟩) hS (af_le hH hS hA) (fun v_116 φ_117 H locs hw_v_116 hH hS => ?_)
        obtain ⟨rfl, hqv_116⟩ := hw_v_116
        rw [hqv_116] at hH
        refine lv_ldc (pc := 829) (v := (-16810000 : Int32)) S.1 S.2.1 S.2.2.2.1 (S.2.2.2.2 _ tw_885) dL_isRefused_829 ?_
        refine lv_icmp_ne (pc := 831) (tgt := 992) S.1 S.2.1 dL_isRefused_831 (by decide) (fun c9 => absurd c9 (fun h9 => h9 rfl)) (fun c_118 => ?_)
        refine lv_aload_n (pc := 834) S.1 S.2.1 dL_isRefused_834 rfl (lv_at hl 10 rfl) ?_
        refine lv_bipush (pc := 835) (v := nI 9) S.1 S.2.1 dL_isRefused_835 (by decide) ?_
        refine lv_iload (pc := 837) S.1 S.2.1 dL_isRefused_837 (lv_at hl 0 rfl) ?_
        refine lv_iload_n (pc := 839) S.1 S.2.1 dL_isRefused_839 rfl (lv_at hl 13 rfl) ?_
        refine lv_bipush (pc := 840) (v := nI 6) S.1 S.2.1 dL_isRefused_840 (by decide) ?_
        refine lv_irem (pc := 842) S.1 S.2.1 dL_isRefused_842 (by decide) ?_
        refine hv_ti (y := nI (x % 6)) (pk_rem (by omega) (by omega) (by omega)) ?_
        refine lv_iload (pc := 843) S.1 S.2.1 dL_isRefused_843 (lv_at hl 9 rfl) ?_
        refine hv_if_eq (pc := 845) (tgt := 852) (a := 1) S.1 S.2.1 (by omega) dL_isRefused_845 (by decide) (fun c9 => absurd c9 (by omega)) (fun c_119 => ?_)
        refine lv_iconst (pc := 848) (v := (-1 : Int32)) S.1 S.2.1 dL_isRefused_848 (by decide) ?_
        refine lv_goto (pc := 849) (tgt := 858) S.1 S.2.1 dL_isRefused_849 (by decide) ?_
        refine hv_call (pc := 858) (vx_runSW (As := [.ref (az 0), .int (nI 9), .int (nI k), .int (nI (x % 6)), .int ((-1 : Int32))]) (rest := []) S (ax_about_1 l hfl D cA ga φ H.size az tn tk tm tg sc ar w ez o o (nI k) (nI (x % 6)) ((-1 : Int32)) hY hI hT h200 (aboutX_1 hk (by omega) (Nat.mod_lt _ (by decide)) (m1R (by decide)))) (vx_cwSW 5 S.2.2.2.2 (gSW tw_261 tw_262 tw_0 tw_263) rfl rfl rfl (by decide +kernel) ⟨Nat.le_of_ble_eq_true rfl, Nat.le_of_ble_eq_true rfl⟩) (pre0_S hH hK hX hS hA) rfl rfl hl.1 rfl (lv_room (Nat.le_of_ble_eq_true rfl)) dL_isRefused_858 ⟨Nat.le_trans (show _ ≤ 2600 by omega) (Nat.le_of_ble_eq_true rfl), Nat.le_trans (show _ ≤ 17000 by omega) (Nat.le_of_ble_eq_true rfl)⟩) hS (af_le hH hS hA) (fun v_120 φ_121 H locs hw_v_120 hH hS => ?_)
        obtain ⟨rfl, hqv_120⟩ := hw_v_120
        rw [hqv_120] at hH
        refine lv_ldc (pc := 861) (v := (-16820000 : Int32)) S.1 S.2.1 S.2.2.2.1 (S.2.2.2.2 _ tw_886) dL_isRefused_861 ?_
        refine lv_icmp_ne (pc := 863) (tgt := 992) S.1 S.2.1 dL_isRefused_863 (by decide) (fun c9 => absurd c9 (fun h9 => h9 rfl)) (fun c_122 => ?_)
        refine lv_aload_n (pc := 866) S.1 S.2.1 dL_isRefused_866 rfl (lv_at hl 10 rfl) ?_
        refine lv_bipush (pc := 867) (v := nI 10) S.1 S.2.1 dL_isRefused_867 (by decide) ?_
        refine lv_iload (pc := 869) S.1 S.2.1 dL_isRefused_869 (lv_at hl 0 rfl) ?_
        refine lv_iload (pc := 871) S.1 S.2.1 dL_isRefused_871 (lv_at hl 4 rfl) ?_
        refine lv_iconst (pc := 873) (v := nI 0) S.1 S.2.1 dL_isRefused_873 (by decide) ?_
        refine hv_call (pc := 874) (vx_runSW (As := [.ref (az 0), .int (nI 10), .int (nI k), .int ((-1 : Int32) - nI (x % 30)), .int (nI 0)]) (rest := []) S (ax_widthAnew_3 l hfl D cA ga φ H.size az tn tk tm tg sc ar w ez o o (nI k) ((-1 : Int32) - nI (x % 30)) (nI 0) hY hI hT h200 (anewX_3b hk (by omega) hsix)) (vx_cwSW 5 S.2.2.2.2 (gSW tw_261 tw_262 tw_0 tw_263) rfl rfl rfl (by decide +kernel) ⟨Nat.le_of_ble_eq_true rfl, Nat.le_of_ble_eq_true rfl⟩) (pre0_S hH hK hX hS hA) rfl rfl hl.1 rfl (lv_room (Nat.le_of_ble_eq_true rfl)) dL_isRefused_874 ⟨Nat.le_trans (show _ ≤ 2600 by omega) (Nat.le_of_ble_eq_true rfl), Nat.le_trans (show _ ≤ 17000 by omega) (Nat.le_of_ble_eq_true rfl)⟩) hS (af_le hH hS hA) (fun v_123 φ_124 H locs hw_v_123 hH hS => ?_)
        obtain ⟨rfl, hqv_123⟩ := hw_v_123
        rw [hqv_123] at hH
        refine lv_ldc (pc := 877) (v := (-16810000 : Int32)) S.1 S.2.1 S.2.2.2.1 (S.2.2.2.2 _ tw_885) dL_isRefused_877 ?_
        refine lv_icmp_ne (pc := 879) (tgt := 992) S.1 S.2.1 dL_isRefused_879 (by decide) (fun c9 => absurd c9 (fun h9 => h9 rfl)) (fun c_125 => ?_)
        refine lv_aload_n (pc := 882) S.1 S.2.1 dL_isRefused_882 rfl (lv_at hl 10 rfl) ?_
        refine lv_bipush (pc := 883) (v := nI 11) S.1 S.2.1 dL_isRefused_883 (by decide) ?_
        refine lv_iload (pc := 885) S.1 S.2.1 dL_isRefused_885 (lv_at hl 0 rfl) ?_
        refine lv_iload (pc := 887) S.1 S.2.1 dL_isRefused_887 (lv_at hl 9 rfl) ?_
        refine hv_if_eq (pc := 889) (tgt := 902) (a := 1) S.1 S.2.1 (by omega) dL_isRefused_889 (by decide) (fun c9 => absurd c9 (by omega)) (fun c_126 => ?_)
        refine lv_bipush (pc := 892) (v := nI 9) S.1 S.2.1 dL_isRefused_892 (by decide) ?_
        refine lv_iload_n (pc := 894) S.1 S.2.1 dL_isRefused_894 rfl (lv_at hl 13 rfl) ?_
        refine lv_bipush (pc := 895) (v := nI 30) S.1 S.2.1 dL_isRefused_895 (by decide) ?_
        refine lv_irem (pc := 897) S.1 S.2.1 dL_isRefused_897 (by decide) ?_
        refine hv_ti (y := nI (x % 30)) (pk_rem (by omega) (by omega) (by omega)) ?_
        refine lv_isub (pc := 898) S.1 S.2.1 dL_isRefused_898 ?_
        refine lv_goto (pc := 899) (tgt := 905) S.1 S.2.1 dL_isRefused_899 (by decide) ?_
        refine lv_iconst (pc := 905) (v := nI 0) S.1 S.2.1 dL_isRefused_905 (by decide) ?_
        refine hv_call (pc := 906) (vx_runSW (As := [.ref (az 0), .int (nI 11), .int (nI k), .int (nI 9 - nI (x % 30)), .int (nI 0)]) (rest := []) S (ax_brim_1 l hfl D cA ga φ H.size az tn tk tm tg sc ar w ez o o (nI k) (nI 9 - nI (x % 30)) (nI 0) hY hI hT h200 (brimX_1 hk (by omega) (lowR (by decide) (by decide) hz30))) (vx_cwSW 5 S.2.2.2.2 (gSW tw_261 tw_262 tw_0 tw_263) rfl rfl rfl (by decide +kernel) ⟨Nat.le_of_ble_eq_true rfl, Nat.le_of_ble_eq_true rfl⟩) (pre0_S hH hK hX hS hA) rfl rfl hl.1 rfl (lv_room (Nat.le_of_ble_eq_true rfl)) dL_isRefused_906 ⟨Nat.le_trans (show _ ≤ 2600 by omega) (Nat.le_of_ble_eq_true rfl), Nat.le_trans (show _ ≤ 17000 by omega) (Nat.le_of_ble_eq_true rfl)⟩) hS (af_le hH hS hA) (fun v_127 φ_128 H locs hw_v_127 hH hS => ?_)
        obtain ⟨rfl, hqv_127⟩ := hw_v_127
        rw [hqv_127] at hH
        refine lv_ldc (pc := 909) (v := (-16820000 : Int32)) S.1 S.2.1 S.2.2.2.1 (S.2.2.2.2 _ tw_886) dL_isRefused_909 ?_
        refine lv_icmp_ne (pc := 911) (tgt := 992) S.1 S.2.1 dL_isRefused_911 (by decide) (fun c9 => absurd c9 (fun h9 => h9 rfl)) (fun c_129 => ?_)
        refine lv_aload_n (pc := 914) S.1 S.2.1 dL_isRefused_914 rfl (lv_at hl 12 rfl) ?_
        refine lv_iconst (pc := 915) (v := nI 4) S.1 S.2.1 dL_isRefused_915 (by decide) ?_
        refine lv_iload (pc := 916) S.1 S.2.1 dL_isRefused_916 (lv_at hl 0 rfl) ?_
        refine lv_imul (pc := 918) S.1 S.2.1 dL_isRefused_918 ?_
        refine hv_ti (y := nI (4 * k)) (pk_mul _ _) ?_
        refine lv_iconst (pc := 919) (v := nI 3) S.1 S.2.1 dL_isRefused_919 (by decide) ?_
        refine lv_iadd (pc := 920) S.1 S.2.1 dL_isRefused_920 ?_
        refine hv_ti (y := nI ((4 * k) + 3)) (nI_add _ _) ?_
        refine hv_iald (pc := 921) S hK hH 1 (hY.a1) rfl (vp_in_nI (show (4 * k) + 3 < 48 by omega) (by omega)) dL_isRefused_921 ?_
        refine hv_ti (y := nI ((o 1) ((4 * k) + 3))) (hv_ld (by omega)) ?_
        refine hv_ti (y := nI (ar 9 k)) (by rw [hlc.2.2]) ?_
        have h9le := (hI.l3 k).2.2.1
        have h7le := (hI.l3 k).2.1
        by_cases h90 : ar 9 k = 0
        · skip
          refine hv_if_eq (pc := 922) (tgt := 940) (a := ar 9 k) S.1 S.2.1 (by omega) dL_isRefused_922 (by decide) (fun c_130 => ?_) (fun c9 => absurd c9 (by omega))
          refine lv_aload_n (pc := 940) S.1 S.2.1 dL_isRefused_940 rfl (lv_at hl 11 rfl) ?_
          refine lv_iconst (pc := 941) (v := nI 3) S.1 S.2.1 dL_isRefused_941 (by decide) ?_
          refine hv_iald (pc := 942) S hK hH 1 (hY.a0) rfl (vp_in_nI (show 3 < 6 by omega) (by omega)) dL_isRefused_942 ?_
          refine hv_ti (y := nI ((o 0) 3)) (hv_ld (by omega)) ?_
          refine hv_ti (y := nI (sc 5)) (by rw [hm.2.2.2.1]) ?_
          by_cases hh0 : sc 5 = 0
          · skip
            refine hv_if_eq (pc := 943) (tgt := 988) (a := sc 5) S.1 S.2.1 (by omega) dL_isRefused_943 (by decide) (fun c_131 => ?_) (fun c9 => absurd c9 (by omega))
            refine lv_iconst (pc := 988) (v := nI 1) S.1 S.2.1 dL_isRefused_988 (by decide) ?_
            refine lv_goto (pc := 989) (tgt := 993) S.1 S.2.1 dL_isRefused_989 (by decide) ?_
            refine lv_istore (pc := 993) (lv' := [(13, .int (nI 1)), (14, .int (nI k)), (11, .long (allF sc ar w ez o)), (10, .int (nI 0 - nI (x % 30))), (9, .int ((-1 : Int32) - nI (x % 30))), (8, .int ((-1 : Int32) - nI (x % 30))), (7, .int ((-1 : Int32) - nI (x % 30))), (6, .int ((-1 : Int32) - nI (x % 30))), (5, .int ((-1 : Int32) - nI (x % 30))), (4, .int (nI 1)), (0, .ref (az 0)), (1, .ref (az 9)), (2, .ref (az 10)), (3, .int (nI x))]) S.1 S.2.1 dL_isRefused_993 hl (by decide) rfl (fun ls hl => ?_)
            refine lv_iinc (pc := 995) (v := nI (k + 1)) (lv' := [(14, .int (nI (k + 1))), (13, .int (nI 1)), (11, .long (allF sc ar w ez o)), (10, .int (nI 0 - nI (x % 30))), (9, .int ((-1 : Int32) - nI (x % 30))), (8, .int ((-1 : Int32) - nI (x % 30))), (7, .int ((-1 : Int32) - nI (x % 30))), (6, .int ((-1 : Int32) - nI (x % 30))), (5, .int ((-1 : Int32) - nI (x % 30))), (4, .int (nI 1)), (0, .ref (az 0)), (1, .ref (az 9)), (2, .ref (az 10)), (3, .int (nI x))]) S.1 S.2.1 dL_isRefused_995 hl (k := 1) rfl (by first | rfl | exact nI_add _ _) (by decide) rfl (fun ls hl => ?_)
            refine lv_goto (pc := 998) (tgt := 773) S.1 S.2.1 dL_isRefused_998 (by decide) ?_
            refine W.widen (k := 1125 + 40 * (k + 1)) (n := 6769 + 240 * (k + 1)) (by omega) (by omega) ?_
            have hi2 : (k + 1) + (n) = sc 3 := by omega
            have hl2 : lv_has ls 16 [(14, .int (nI (k + 1))), (13, .int (nI 1)), (11, .long (allF sc ar w ez o)), (10, .int (nI 0 - nI (x % 30))), (9, .int ((-1 : Int32) - nI (x % 30))), (8, .int ((-1 : Int32) - nI (x % 30))), (7, .int ((-1 : Int32) - nI (x % 30))), (6, .int ((-1 : Int32) - nI (x % 30))), (5, .int ((-1 : Int32) - nI (x % 30))), (4, .int (nI 1)), (0, .ref (az 0)), (1, .ref (az 9)), (2, .ref (az 10)), (3, .int (nI x))] := lv_sub hl [0, 1, 2, 3, 4, 5, 6, 7, 8, 9, 10, 11, 12, 13] rfl
            apply ih (k := k + 1) <;> assumption
          · skip
            refine hv_if_eq (pc := 943) (tgt := 988) (a := sc 5) S.1 S.2.1 (by omega) dL_isRefused_943 (by decide) (fun c9 => absurd c9 (by omega)) (fun c_132 => ?_)
            refine lv_aload_n (pc := 946) S.1 S.2.1 dL_isRefused_946 rfl (lv_at hl 12 rfl) ?_
            refine lv_iconst (pc := 947) (v := nI 4) S.1 S.2.1 dL_isRefused_947 (by decide) ?_
            refine lv_iload (pc := 948) S.1 S.2.1 dL_isRefused_948 (lv_at hl 0 rfl) ?_
            refine lv_imul (pc := 950) S.1 S.2.1 dL_isRefused_950 ?_
            refine hv_ti (y := nI (4 * k)) (pk_mul _ _) ?_
            refine lv_iconst (pc := 951) (v := nI 2) S.1 S.2.1 dL_isRefused_951 (by decide) ?_
            refine lv_iadd (pc := 952) S.1 S.2.1 dL_isRefused_952 ?_
            refine hv_ti (y := nI ((4 * k) + 2)) (nI_add _ _) ?_
            refine hv_iald (pc := 953) S hK hH 1 (hY.a1) rfl (vp_in_nI (show (4 * k) + 2 < 48 by omega) (by omega)) dL_isRefused_953 ?_
            refine hv_ti (y := nI ((o 1) ((4 * k) + 2))) (hv_ld (by omega)) ?_
            refine hv_ti (y := nI (if ez 2 k = 0 then 0 else 1)) (by rw [hlc.2.1]) ?_
            by_cases he0 : ez 2 k = 0
            · skip
              refine hv_ti (y := nI 0) (by rw [if_pos he0]) ?_
              refine hv_if_ne (pc := 954) (tgt := 970) (a := 0) S.1 S.2.1 (by omega) dL_isRefused_954 (by decide) (fun c9 => absurd c9 (by omega)) (fun c_133 => ?_)
              refine lv_aload_n (pc := 957) S.1 S.2.1 dL_isRefused_957 rfl (lv_at hl 12 rfl) ?_
              refine lv_iconst (pc := 958) (v := nI 4) S.1 S.2.1 dL_isRefused_958 (by decide) ?_
              refine lv_iload (pc := 959) S.1 S.2.1 dL_isRefused_959 (lv_at hl 0 rfl) ?_
              refine lv_imul (pc := 961) S.1 S.2.1 dL_isRefused_961 ?_
              refine hv_ti (y := nI (4 * k)) (pk_mul _ _) ?_
              refine lv_iconst (pc := 962) (v := nI 1) S.1 S.2.1 dL_isRefused_962 (by decide) ?_
              refine lv_iadd (pc := 963) S.1 S.2.1 dL_isRefused_963 ?_
              refine hv_ti (y := nI ((4 * k) + 1)) (nI_add _ _) ?_
              refine hv_iald (pc := 964) S hK hH 1 (hY.a1) rfl (vp_in_nI (show (4 * k) + 1 < 48 by omega) (by omega)) dL_isRefused_964 ?_
              refine hv_ti (y := nI ((o 1) ((4 * k) + 1))) (hv_ld (by omega)) ?_
              refine hv_ti (y := nI (ar 7 k)) (by rw [hlc.1]) ?_
              refine lv_bipush (pc := 965) (v := nI 12) S.1 S.2.1 dL_isRefused_965 (by decide) ?_
              by_cases h12 : ar 7 k < 12
              · skip
                refine hv_icmp_lt (pc := 967) (tgt := 988) (a := ar 7 k) (b := 12) S.1 S.2.1 (by omega) (by omega) dL_isRefused_967 (by decide) (fun c_134 => ?_) (fun c9 => absurd c9 (by omega))
                refine lv_iconst (pc := 988) (v := nI 1) S.1 S.2.1 dL_isRefused_988 (by decide) ?_
                refine lv_goto (pc := 989) (tgt := 993) S.1 S.2.1 dL_isRefused_989 (by decide) ?_
                refine lv_istore (pc := 993) (lv' := [(13, .int (nI 1)), (14, .int (nI k)), (11, .long (allF sc ar w ez o)), (10, .int (nI 0 - nI (x % 30))), (9, .int ((-1 : Int32) - nI (x % 30))), (8, .int ((-1 : Int32) - nI (x % 30))), (7, .int ((-1 : Int32) - nI (x % 30))), (6, .int ((-1 : Int32) - nI (x % 30))), (5, .int ((-1 : Int32) - nI (x % 30))), (4, .int (nI 1)), (0, .ref (az 0)), (1, .ref (az 9)), (2, .ref (az 10)), (3, .int (nI x))]) S.1 S.2.1 dL_isRefused_993 hl (by decide) rfl (fun ls hl => ?_)
                refine lv_iinc (pc := 995) (v := nI (k + 1)) (lv' := [(14, .int (nI (k + 1))), (13, .int (nI 1)), (11, .long (allF sc ar w ez o)), (10, .int (nI 0 - nI (x % 30))), (9, .int ((-1 : Int32) - nI (x % 30))), (8, .int ((-1 : Int32) - nI (x % 30))), (7, .int ((-1 : Int32) - nI (x % 30))), (6, .int ((-1 : Int32) - nI (x % 30))), (5, .int ((-1 : Int32) - nI (x % 30))), (4, .int (nI 1)), (0, .ref (az 0)), (1, .ref (az 9)), (2, .ref (az 10)), (3, .int (nI x))]) S.1 S.2.1 dL_isRefused_995 hl (k := 1) rfl (by first | rfl | exact nI_add _ _) (by decide) rfl (fun ls hl => ?_)
                refine lv_goto (pc := 998) (tgt := 773) S.1 S.2.1 dL_isRefused_998 (by decide) ?_
                refine W.widen (k := 1125 + 40 * (k + 1)) (n := 6769 + 240 * (k + 1)) (by omega) (by omega) ?_
                have hi2 : (k + 1) + (n) = sc 3 := by omega
                have hl2 : lv_has ls 16 [(14, .int (nI (k + 1))), (13, .int (nI 1)), (11, .long (allF sc ar w ez o)), (10, .int (nI 0 - nI (x % 30))), (9, .int ((-1 : Int32) - nI (x % 30))), (8, .int ((-1 : Int32) - nI (x % 30))), (7, .int ((-1 : Int32) - nI (x % 30))), (6, .int ((-1 : Int32) - nI (x % 30))), (5, .int ((-1 : Int32) - nI (x % 30))), (4, .int (nI 1)), (0, .ref (az 0)), (1, .ref (az 9)), (2, .ref (az 10)), (3, .int (nI x))] := lv_sub hl [0, 1, 2, 3, 4, 5, 6, 7, 8, 9, 10, 11, 12, 13] rfl
                apply ih (k := k + 1) <;> assumption
              · skip
                refine hv_icmp_lt (pc := 967) (tgt := 988) (a := ar 7 k) (b := 12) S.1 S.2.1 (by omega) (by omega) dL_isRefused_967 (by decide) (fun c9 => absurd c9 (by omega)) (fun c_135 => ?_)
                refine lv_aload_n (pc := 970) S.1 S.2.1 dL_isRefused_970 rfl (lv_at hl 10 rfl) ?_
                refine lv_iconst (pc := 971) (v := nI 4) S.1 S.2.1 dL_isRefused_971 (by decide) ?_
                refine lv_iload (pc := 972) S.1 S.2.1 dL_isRefused_972 (lv_at hl 0 rfl) ?_
                refine lv_iload_n (pc := 974) S.1 S.2.1 dL_isRefused_974 rfl (lv_at hl 13 rfl) ?_
                refine lv_aload_n (pc := 975) S.1 S.2.1 dL_isRefused_975 rfl (lv_at hl 11 rfl) ?_
                refine lv_iconst (pc := 976) (v := nI 3) S.1 S.2.1 dL_isRefused_976 (by decide) ?_
                refine hv_iald (pc := 977) S hK hH 1 (hY.a0) rfl (vp_in_nI (show 3 < 6 by omega) (by omega)) dL_isRefused_977 ?_
                refine hv_ti (y := nI ((o 0) 3)) (hv_ld (by omega)) ?_
                refine hv_ti (y := nI (sc 5)) (by rw [hm.2.2.2.1]) ?_
                refine lv_irem (pc := 978) S.1 S.2.1 dL_isRefused_978 (fun h9 => hh0 (jI_inj (show nI (sc 5) = nI 0 from h9.trans nI_0.symm) (by omega) (by omega))) ?_
                refine hv_ti (y := nI (x % (sc 5))) (pk_rem (by omega) (by omega) (by omega)) ?_
                refine lv_iconst (pc := 979) (v := nI 0) S.1 S.2.1 dL_isRefused_979 (by decide) ?_
                refine hv_call (pc := 980) (vx_runSW (As := [.ref (az 0), .int (nI 4), .int (nI k), .int (nI (x % (sc 5))), .int (nI 0)]) (rest := []) S (ax_cycle_2 l hfl D cA ga φ H.size az tn tk tm tg sc ar w ez o o (nI k) (nI (x % (sc 5))) (nI 0) hY hI hT h200 (cycleX_2 hk (by omega) (Nat.mod_lt _ (by omega)) (by omega) (Or.inr (Or.inr (by omega))))) (vx_cwSW 5 S.2.2.2.2 (gSW tw_261 tw_262 tw_0 tw_263) rfl rfl rfl (by decide +kernel) ⟨Nat.le_of_ble_eq_true rfl, Nat.le_of_ble_eq_true rfl⟩) (pre0_S hH hK hX hS hA) rfl rfl hl.1 rfl (lv_room (Nat.le_of_ble_eq_true rfl)) dL_isRefused_980 ⟨Nat.le_trans (show _ ≤ 2600 by omega) (Nat.le_of_ble_eq_true rfl), Nat.le_trans (show _ ≤ 17000 by omega) (Nat.le_of_ble_eq_true rfl)⟩) hS (af_le hH hS hA) (fun v_136 φ_137 H locs hw_v_136 hH hS => ?_)
                obtain ⟨rfl, hqv_136⟩ := hw_v_136
                rw [hqv_136] at hH
                refine lv_ldc (pc := 983) (v := (-16830000 : Int32)) S.1 S.2.1 S.2.2.2.1 (S.2.2.2.2 _ tw_887) dL_isRefused_983 ?_
                refine lv_icmp_ne (pc := 985) (tgt := 992) S.1 S.2.1 dL_isRefused_985 (by decide) (fun c9 => absurd c9 (fun h9 => h9 rfl)) (fun c_138 => ?_)
                refine lv_iconst (pc := 988) (v := nI 1) S.1 S.2.1 dL_isRefused_988 (by decide) ?_
                refine lv_goto (pc := 989) (tgt := 993) S.1 S.2.1 dL_isRefused_989 (by decide) ?_
                refine lv_istore (pc := 993) (lv' := [(13, .int (nI 1)), (14, .int (nI k)), (11, .long (allF sc ar w ez o)), (10, .int (nI 0 - nI (x % 30))), (9, .int ((-1 : Int32) - nI (x % 30))), (8, .int ((-1 : Int32) - nI (x % 30))), (7, .int ((-1 : Int32) - nI (x % 30))), (6, .int ((-1 : Int32) - nI (x % 30))), (5, .int ((-1 : Int32) - nI (x % 30))), (4, .int (nI 1)), (0, .ref (az 0)), (1, .ref (az 9)), (2, .ref (az 10)), (3, .int (nI x))]) S.1 S.2.1 dL_isRefused_993 hl (by decide) rfl (fun ls hl => ?_)
                refine lv_iinc (pc := 995) (v := nI (k + 1)) (lv' := [(14, .int (nI (k + 1))), (13, .int (nI 1)), (11, .long (allF sc ar w ez o)), (10, .int (nI 0 - nI (x % 30))), (9, .int ((-1 : Int32) - nI (x % 30))), (8, .int ((-1 : Int32) - nI (x % 30))), (7, .int ((-1 : Int32) - nI (x % 30))), (6, .int ((-1 : Int32) - nI (x % 30))), (5, .int ((-1 : Int32) - nI (x % 30))), (4, .int (nI 1)), (0, .ref (az 0)), (1, .ref (az 9)), (2, .ref (az 10)), (3, .int (nI x))]) S.1 S.2.1 dL_isRefused_995 hl (k := 1) rfl (by first | rfl | exact nI_add _ _) (by decide) rfl (fun ls hl => ?_)
                refine lv_goto (pc := 998) (tgt := 773) S.1 S.2.1 dL_isRefused_998 (by decide) ?_
                refine W.widen (k := 1125 + 40 * (k + 1)) (n := 6769 + 240 * (k + 1)) (by omega) (by omega) ?_
                have hi2 : (k + 1) + (n) = sc 3 := by omega
                have hl2 : lv_has ls 16 [(14, .int (nI (k + 1))), (13, .int (nI 1)), (11, .long (allF sc ar w ez o)), (10, .int (nI 0 - nI (x % 30))), (9, .int ((-1 : Int32) - nI (x % 30))), (8, .int ((-1 : Int32) - nI (x % 30))), (7, .int ((-1 : Int32) - nI (x % 30))), (6, .int ((-1 : Int32) - nI (x % 30))), (5, .int ((-1 : Int32) - nI (x % 30))), (4, .int (nI 1)), (0, .ref (az 0)), (1, .ref (az 9)), (2, .ref (az 10)), (3, .int (nI x))] := lv_sub hl [0, 1, 2, 3, 4, 5, 6, 7, 8, 9, 10, 11, 12, 13] rfl
                apply ih (k := k + 1) <;> assumption
            · skip
              refine hv_ti (y := nI 1) (by rw [if_neg he0]) ?_
              refine hv_if_ne (pc := 954) (tgt := 970) (a := 1) S.1 S.2.1 (by omega) dL_isRefused_954 (by decide) (fun c_139 => ?_) (fun c9 => absurd c9 (by omega))
              refine lv_aload_n (pc := 970) S.1 S.2.1 dL_isRefused_970 rfl (lv_at hl 10 rfl) ?_
              refine lv_iconst (pc := 971) (v := nI 4) S.1 S.2.1 dL_isRefused_971 (by decide) ?_
              refine lv_iload (pc := 972) S.1 S.2.1 dL_isRefused_972 (lv_at hl 0 rfl) ?_
              refine lv_iload_n (pc := 974) S.1 S.2.1 dL_isRefused_974 rfl (lv_at hl 13 rfl) ?_
              refine lv_aload_n (pc := 975) S.1 S.2.1 dL_isRefused_975 rfl (lv_at hl 11 rfl) ?_
              refine lv_iconst (pc := 976) (v := nI 3) S.1 S.2.1 dL_isRefused_976 (by decide) ?_
              refine hv_iald (pc := 977) S hK hH 1 (hY.a0) rfl (vp_in_nI (show 3 < 6 by omega) (by omega)) dL_isRefused_977 ?_
              refine hv_ti (y := nI ((o 0) 3)) (hv_ld (by omega)) ?_
              refine hv_ti (y := nI (sc 5)) (by rw [hm.2.2.2.1]) ?_
              refine lv_irem (pc := 978) S.1 S.2.1 dL_isRefused_978 (fun h9 => hh0 (jI_inj (show nI (sc 5) = nI 0 from h9.trans nI_0.symm) (by omega) (by omega))) ?_
              refine hv_ti (y := nI (x % (sc 5))) (pk_rem (by omega) (by omega) (by omega)) ?_
              refine lv_iconst (pc := 979) (v := nI 0) S.1 S.2.1 dL_isRefused_979 (by decide) ?_
              refine hv_call (pc := 980) (vx_runSW (As := [.ref (az 0), .int (nI 4), .int (nI k), .int (nI (x % (sc 5))), .int (nI 0)]) (rest := []) S (ax_cycle_2 l hfl D cA ga φ H.size az tn tk tm tg sc ar w ez o o (nI k) (nI (x % (sc 5))) (nI 0) hY hI hT h200 (cycleX_2 hk (by omega) (Nat.mod_lt _ (by omega)) (by omega) (Or.inr (Or.inl he0)))) (vx_cwSW 5 S.2.2.2.2 (gSW tw_261 tw_262 tw_0 tw_263) rfl rfl rfl (by decide +kernel) ⟨Nat.le_of_ble_eq_true rfl, Nat.le_of_ble_eq_true rfl⟩) (pre0_S hH hK hX hS hA) rfl rfl hl.1 rfl (lv_room (Nat.le_of_ble_eq_true rfl)) dL_isRefused_980 ⟨Nat.le_trans (show _ ≤ 2600 by omega) (Nat.le_of_ble_eq_true rfl), Nat.le_trans (show _ ≤ 17000 by omega) (Nat.le_of_ble_eq_true rfl)⟩) hS (af_le hH hS hA) (fun v_140 φ_141 H locs hw_v_140 hH hS => ?_)
              obtain ⟨rfl, hqv_140⟩ := hw_v_140
              rw [hqv_140] at hH
              refine lv_ldc (pc := 983) (v := (-16830000 : Int32)) S.1 S.2.1 S.2.2.2.1 (S.2.2.2.2 _ tw_887) dL_isRefused_983 ?_
              refine lv_icmp_ne (pc := 985) (tgt := 992) S.1 S.2.1 dL_isRefused_985 (by decide) (fun c9 => absurd c9 (fun h9 => h9 rfl)) (fun c_142 => ?_)
              refine lv_iconst (pc := 988) (v := nI 1) S.1 S.2.1 dL_isRefused_988 (by decide) ?_
              refine lv_goto (pc := 989) (tgt := 993) S.1 S.2.1 dL_isRefused_989 (by decide) ?_
              refine lv_istore (pc := 993) (lv' := [(13, .int (nI 1)), (14, .int (nI k)), (11, .long (allF sc ar w ez o)), (10, .int (nI 0 - nI (x % 30))), (9, .int ((-1 : Int32) - nI (x % 30))), (8, .int ((-1 : Int32) - nI (x % 30))), (7, .int ((-1 : Int32) - nI (x % 30))), (6, .int ((-1 : Int32) - nI (x % 30))), (5, .int ((-1 : Int32) - nI (x % 30))), (4, .int (nI 1)), (0, .ref (az 0)), (1, .ref (az 9)), (2, .ref (az 10)), (3, .int (nI x))]) S.1 S.2.1 dL_isRefused_993 hl (by decide) rfl (fun ls hl => ?_)
              refine lv_iinc (pc := 995) (v := nI (k + 1)) (lv' := [(14, .int (nI (k + 1))), (13, .int (nI 1)), (11, .long (allF sc ar w ez o)), (10, .int (nI 0 - nI (x % 30))), (9, .int ((-1 : Int32) - nI (x % 30))), (8, .int ((-1 : Int32) - nI (x % 30))), (7, .int ((-1 : Int32) - nI (x % 30))), (6, .int ((-1 : Int32) - nI (x % 30))), (5, .int ((-1 : Int32) - nI (x % 30))), (4, .int (nI 1)), (0, .ref (az 0)), (1, .ref (az 9)), (2, .ref (az 10)), (3, .int (nI x))]) S.1 S.2.1 dL_isRefused_995 hl (k := 1) rfl (by first | rfl | exact nI_add _ _) (by decide) rfl (fun ls hl => ?_)
              refine lv_goto (pc := 998) (tgt := 773) S.1 S.2.1 dL_isRefused_998 (by decide) ?_
              refine W.widen (k := 1125 + 40 * (k + 1)) (n := 6769 + 240 * (k + 1)) (by omega) (by omega) ?_
              have hi2 : (k + 1) + (n) = sc 3 := by omega
              have hl2 : lv_has ls 16 [(14, .int (nI (k + 1))), (13, .int (nI 1)), (11, .long (allF sc ar w ez o)), (10, .int (nI 0 - nI (x % 30))), (9, .int ((-1 : Int32) - nI (x % 30))), (8, .int ((-1 : Int32) - nI (x % 30))), (7, .int ((-1 : Int32) - nI (x % 30))), (6, .int ((-1 : Int32) - nI (x % 30))), (5, .int ((-1 : Int32) - nI (x % 30))), (4, .int (nI 1)), (0, .ref (az 0)), (1, .ref (az 9)), (2, .ref (az 10)), (3, .int (nI x))] := lv_sub hl [0, 1, 2, 3, 4, 5, 6, 7, 8, 9, 10, 11, 12, 13] rfl
              apply ih (k := k + 1) <;> assumption
        · skip
          refine hv_if_eq (pc := 922) (tgt := 940) (a := ar 9 k) S.1 S.2.1 (by omega) dL_isRefused_922 (by decide) (fun c9 => absurd c9 (by omega)) (fun c_143 => ?_)
          refine lv_aload_n (pc := 925) S.1 S.2.1 dL_isRefused_925 rfl (lv_at hl 10 rfl) ?_
          refine lv_bipush (pc := 926) (v := nI 7) S.1 S.2.1 dL_isRefused_926 (by decide) ?_
          refine lv_iload (pc := 928) S.1 S.2.1 dL_isRefused_928 (lv_at hl 0 rfl) ?_
          refine lv_iconst (pc := 930) (v := nI 0) S.1 S.2.1 dL_isRefused_930 (by decide) ?_
          refine lv_iconst (pc := 931) (v := nI 0) S.1 S.2.1 dL_isRefused_931 (by decide) ?_
          refine hv_call (pc := 932) (vx_runSW (As := [.ref (az 0), .int (nI 7), .int (nI k), .int (nI 0), .int (nI 0)]) (rest := []) S (ax_trim_2 l hfl D cA ga φ H.size az tn tk tm tg sc ar w ez o o (nI k) (nI 0) (nI 0) hY hI hT h200 (trimX_2 hk (by omega) h90)) (vx_cwSW 5 S.2.2.2.2 (gSW tw_261 tw_262 tw_0 tw_263) rfl rfl rfl (by decide +kernel) ⟨Nat.le_of_ble_eq_true rfl, Nat.le_of_ble_eq_true rfl⟩) (pre0_S hH hK hX hS hA) rfl rfl hl.1 rfl (lv_room (Nat.le_of_ble_eq_true rfl)) dL_isRefused_932 ⟨Nat.le_trans (show _ ≤ 2600 by omega) (Nat.le_of_ble_eq_true rfl), Nat.le_trans (show _ ≤ 17000 by omega) (Nat.le_of_ble_eq_true rfl)⟩) hS (af_le hH hS hA) (fun v_144 φ_145 H locs hw_v_144 hH hS => ?_)
          obtain ⟨rfl, hqv_144⟩ := hw_v_144
          rw [hqv_144] at hH
          refine lv_ldc (pc := 935) (v := (-16830000 : Int32)) S.1 S.2.1 S.2.2.2.1 (S.2.2.2.2 _ tw_887) dL_isRefused_935 ?_
          refine lv_icmp_ne (pc := 937) (tgt := 992) S.1 S.2.1 dL_isRefused_937 (by decide) (fun c9 => absurd c9 (fun h9 => h9 rfl)) (fun c_146 => ?_)
          refine lv_aload_n (pc := 940) S.1 S.2.1 dL_isRefused_940 rfl (lv_at hl 11 rfl) ?_
          refine lv_iconst (pc := 941) (v := nI 3) S.1 S.2.1 dL_isRefused_941 (by decide) ?_
          refine hv_iald (pc := 942) S hK hH 1 (hY.a0) rfl (vp_in_nI (show 3 < 6 by omega) (by omega)) dL_isRefused_942 ?_
          refine hv_ti (y := nI ((o 0) 3)) (hv_ld (by omega)) ?_
          refine hv_ti (y := nI (sc 5)) (by rw [hm.2.2.2.1]) ?_
          by_cases hh0 : sc 5 = 0
          · skip
            refine hv_if_eq (pc := 943) (tgt := 988) (a := sc 5) S.1 S.2.1 (by omega) dL_isRefused_943 (by decide) (fun c_147 => ?_) (fun c9 => absurd c9 (by omega))
            refine lv_iconst (pc := 988) (v := nI 1) S.1 S.2.1 dL_isRefused_988 (by decide) ?_
            refine lv_goto (pc := 989) (tgt := 993) S.1 S.2.1 dL_isRefused_989 (by decide) ?_
            refine lv_istore (pc := 993) (lv' := [(13, .int (nI 1)), (14, .int (nI k)), (11, .long (allF sc ar w ez o)), (10, .int (nI 0 - nI (x % 30))), (9, .int ((-1 : Int32) - nI (x % 30))), (8, .int ((-1 : Int32) - nI (x % 30))), (7, .int ((-1 : Int32) - nI (x % 30))), (6, .int ((-1 : Int32) - nI (x % 30))), (5, .int ((-1 : Int32) - nI (x % 30))), (4, .int (nI 1)), (0, .ref (az 0)), (1, .ref (az 9)), (2, .ref (az 10)), (3, .int (nI x))]) S.1 S.2.1 dL_isRefused_993 hl (by decide) rfl (fun ls hl => ?_)
            refine lv_iinc (pc := 995) (v := nI (k + 1)) (lv' := [(14, .int (nI (k + 1))), (13, .int (nI 1)), (11, .long (allF sc ar w ez o)), (10, .int (nI 0 - nI (x % 30))), (9, .int ((-1 : Int32) - nI (x % 30))), (8, .int ((-1 : Int32) - nI (x % 30))), (7, .int ((-1 : Int32) - nI (x % 30))), (6, .int ((-1 : Int32) - nI (x % 30))), (5, .int ((-1 : Int32) - nI (x % 30))), (4, .int (nI 1)), (0, .ref (az 0)), (1, .ref (az 9)), (2, .ref (az 10)), (3, .int (nI x))]) S.1 S.2.1 dL_isRefused_995 hl (k := 1) rfl (by first | rfl | exact nI_add _ _) (by decide) rfl (fun ls hl => ?_)
            refine lv_goto (pc := 998) (tgt := 773) S.1 S.2.1 dL_isRefused_998 (by decide) ?_
            refine W.widen (k := 1125 + 40 * (k + 1)) (n := 6769 + 240 * (k + 1)) (by omega) (by omega) ?_
            have hi2 : (k + 1) + (n) = sc 3 := by omega
            have hl2 : lv_has ls 16 [(14, .int (nI (k + 1))), (13, .int (nI 1)), (11, .long (allF sc ar w ez o)), (10, .int (nI 0 - nI (x % 30))), (9, .int ((-1 : Int32) - nI (x % 30))), (8, .int ((-1 : Int32) - nI (x % 30))), (7, .int ((-1 : Int32) - nI (x % 30))), (6, .int ((-1 : Int32) - nI (x % 30))), (5, .int ((-1 : Int32) - nI (x % 30))), (4, .int (nI 1)), (0, .ref (az 0)), (1, .ref (az 9)), (2, .ref (az 10)), (3, .int (nI x))] := lv_sub hl [0, 1, 2, 3, 4, 5, 6, 7, 8, 9, 10, 11, 12, 13] rfl
            apply ih (k := k + 1) <;> assumption
          · skip
            refine hv_if_eq (pc := 943) (tgt := 988) (a := sc 5) S.1 S.2.1 (by omega) dL_isRefused_943 (by decide) (fun c9 => absurd c9 (by omega)) (fun c_148 => ?_)
            refine lv_aload_n (pc := 946) S.1 S.2.1 dL_isRefused_946 rfl (lv_at hl 12 rfl) ?_
            refine lv_iconst (pc := 947) (v := nI 4) S.1 S.2.1 dL_isRefused_947 (by decide) ?_
            refine lv_iload (pc := 948) S.1 S.2.1 dL_isRefused_948 (lv_at hl 0 rfl) ?_
            refine lv_imul (pc := 950) S.1 S.2.1 dL_isRefused_950 ?_
            refine hv_ti (y := nI (4 * k)) (pk_mul _ _) ?_
            refine lv_iconst (pc := 951) (v := nI 2) S.1 S.2.1 dL_isRefused_951 (by decide) ?_
            refine lv_iadd (pc := 952) S.1 S.2.1 dL_isRefused_952 ?_
            refine hv_ti (y := nI ((4 * k) + 2)) (nI_add _ _) ?_
            refine hv_iald (pc := 953) S hK hH 1 (hY.a1) rfl (vp_in_nI (show (4 * k) + 2 < 48 by omega) (by omega)) dL_isRefused_953 ?_
            refine hv_ti (y := nI ((o 1) ((4 * k) + 2))) (hv_ld (by omega)) ?_
            refine hv_ti (y := nI (if ez 2 k = 0 then 0 else 1)) (by rw [hlc.2.1]) ?_
            by_cases he0 : ez 2 k = 0
            · skip
              refine hv_ti (y := nI 0) (by rw [if_pos he0]) ?_
              refine hv_if_ne (pc := 954) (tgt := 970) (a := 0) S.1 S.2.1 (by omega) dL_isRefused_954 (by decide) (fun c9 => absurd c9 (by omega)) (fun c_149 => ?_)
              refine lv_aload_n (pc := 957) S.1 S.2.1 dL_isRefused_957 rfl (lv_at hl 12 rfl) ?_
              refine lv_iconst (pc := 958) (v := nI 4) S.1 S.2.1 dL_isRefused_958 (by decide) ?_
              refine lv_iload (pc := 959) S.1 S.2.1 dL_isRefused_959 (lv_at hl 0 rfl) ?_
              refine lv_imul (pc := 961) S.1 S.2.1 dL_isRefused_961 ?_
              refine hv_ti (y := nI (4 * k)) (pk_mul _ _) ?_
              refine lv_iconst (pc := 962) (v := nI 1) S.1 S.2.1 dL_isRefused_962 (by decide) ?_
              refine lv_iadd (pc := 963) S.1 S.2.1 dL_isRefused_963 ?_
              refine hv_ti (y := nI ((4 * k) + 1)) (nI_add _ _) ?_
              refine hv_iald (pc := 964) S hK hH 1 (hY.a1) rfl (vp_in_nI (show (4 * k) + 1 < 48 by omega) (by omega)) dL_isRefused_964 ?_
              refine hv_ti (y := nI ((o 1) ((4 * k) + 1))) (hv_ld (by omega)) ?_
              refine hv_ti (y := nI (ar 7 k)) (by rw [hlc.1]) ?_
              refine lv_bipush (pc := 965) (v := nI 12) S.1 S.2.1 dL_isRefused_965 (by decide) ?_
              by_cases h12 : ar 7 k < 12
              · skip
                refine hv_icmp_lt (pc := 967) (tgt := 988) (a := ar 7 k) (b := 12) S.1 S.2.1 (by omega) (by omega) dL_isRefused_967 (by decide) (fun c_150 => ?_) (fun c9 => absurd c9 (by omega))
                refine lv_iconst (pc := 988) (v := nI 1) S.1 S.2.1 dL_isRefused_988 (by decide) ?_
                refine lv_goto (pc := 989) (tgt := 993) S.1 S.2.1 dL_isRefused_989 (by decide) ?_
                refine lv_istore (pc := 993) (lv' := [(13, .int (nI 1)), (14, .int (nI k)), (11, .long (allF sc ar w ez o)), (10, .int (nI 0 - nI (x % 30))), (9, .int ((-1 : Int32) - nI (x % 30))), (8, .int ((-1 : Int32) - nI (x % 30))), (7, .int ((-1 : Int32) - nI (x % 30))), (6, .int ((-1 : Int32) - nI (x % 30))), (5, .int ((-1 : Int32) - nI (x % 30))), (4, .int (nI 1)), (0, .ref (az 0)), (1, .ref (az 9)), (2, .ref (az 10)), (3, .int (nI x))]) S.1 S.2.1 dL_isRefused_993 hl (by decide) rfl (fun ls hl => ?_)
                refine lv_iinc (pc := 995) (v := nI (k + 1)) (lv' := [(14, .int (nI (k + 1))), (13, .int (nI 1)), (11, .long (allF sc ar w ez o)), (10, .int (nI 0 - nI (x % 30))), (9, .int ((-1 : Int32) - nI (x % 30))), (8, .int ((-1 : Int32) - nI (x % 30))), (7, .int ((-1 : Int32) - nI (x % 30))), (6, .int ((-1 : Int32) - nI (x % 30))), (5, .int ((-1 : Int32) - nI (x % 30))), (4, .int (nI 1)), (0, .ref (az 0)), (1, .ref (az 9)), (2, .ref (az 10)), (3, .int (nI x))]) S.1 S.2.1 dL_isRefused_995 hl (k := 1) rfl (by first | rfl | exact nI_add _ _) (by decide) rfl (fun ls hl => ?_)
                refine lv_goto (pc := 998) (tgt := 773) S.1 S.2.1 dL_isRefused_998 (by decide) ?_
                refine W.widen (k := 1125 + 40 * (k + 1)) (n := 6769 + 240 * (k + 1)) (by omega) (by omega) ?_
                have hi2 : (k + 1) + (n) = sc 3 := by omega
                have hl2 : lv_has ls 16 [(14, .int (nI (k + 1))), (13, .int (nI 1)), (11, .long (allF sc ar w ez o)), (10, .int (nI 0 - nI (x % 30))), (9, .int ((-1 : Int32) - nI (x % 30))), (8, .int ((-1 : Int32) - nI (x % 30))), (7, .int ((-1 : Int32) - nI (x % 30))), (6, .int ((-1 : Int32) - nI (x % 30))), (5, .int ((-1 : Int32) - nI (x % 30))), (4, .int (nI 1)), (0, .ref (az 0)), (1, .ref (az 9)), (2, .ref (az 10)), (3, .int (nI x))] := lv_sub hl [0, 1, 2, 3, 4, 5, 6, 7, 8, 9, 10, 11, 12, 13] rfl
                apply ih (k := k + 1) <;> assumption
              · skip
                refine hv_icmp_lt (pc := 967) (tgt := 988) (a := ar 7 k) (b := 12) S.1 S.2.1 (by omega) (by omega) dL_isRefused_967 (by decide) (fun c9 => absurd c9 (by omega)) (fun c_151 => ?_)
                refine lv_aload_n (pc := 970) S.1 S.2.1 dL_isRefused_970 rfl (lv_at hl 10 rfl) ?_
                refine lv_iconst (pc := 971) (v := nI 4) S.1 S.2.1 dL_isRefused_971 (by decide) ?_
                refine lv_iload (pc := 972) S.1 S.2.1 dL_isRefused_972 (lv_at hl 0 rfl) ?_
                refine lv_iload_n (pc := 974) S.1 S.2.1 dL_isRefused_974 rfl (lv_at hl 13 rfl) ?_
                refine lv_aload_n (pc := 975) S.1 S.2.1 dL_isRefused_975 rfl (lv_at hl 11 rfl) ?_
                refine lv_iconst (pc := 976) (v := nI 3) S.1 S.2.1 dL_isRefused_976 (by decide) ?_
                refine hv_iald (pc := 977) S hK hH 1 (hY.a0) rfl (vp_in_nI (show 3 < 6 by omega) (by omega)) dL_isRefused_977 ?_
                refine hv_ti (y := nI ((o 0) 3)) (hv_ld (by omega)) ?_
                refine hv_ti (y := nI (sc 5)) (by rw [hm.2.2.2.1]) ?_
                refine lv_irem (pc := 978) S.1 S.2.1 dL_isRefused_978 (fun h9 => hh0 (jI_inj (show nI (sc 5) = nI 0 from h9.trans nI_0.symm) (by omega) (by omega))) ?_
                refine hv_ti (y := nI (x % (sc 5))) (pk_rem (by omega) (by omega) (by omega)) ?_
                refine lv_iconst (pc := 979) (v := nI 0) S.1 S.2.1 dL_isRefused_979 (by decide) ?_
                refine hv_call (pc := 980) (vx_runSW (As := [.ref (az 0), .int (nI 4), .int (nI k), .int (nI (x % (sc 5))), .int (nI 0)]) (rest := []) S (ax_cycle_2 l hfl D cA ga φ H.size az tn tk tm tg sc ar w ez o o (nI k) (nI (x % (sc 5))) (nI 0) hY hI hT h200 (cycleX_2 hk (by omega) (Nat.mod_lt _ (by omega)) (by omega) (Or.inr (Or.inr (by omega))))) (vx_cwSW 5 S.2.2.2.2 (gSW tw_261 tw_262 tw_0 tw_263) rfl rfl rfl (by decide +kernel) ⟨Nat.le_of_ble_eq_true rfl, Nat.le_of_ble_eq_true rfl⟩) (pre0_S hH hK hX hS hA) rfl rfl hl.1 rfl (lv_room (Nat.le_of_ble_eq_true rfl)) dL_isRefused_980 ⟨Nat.le_trans (show _ ≤ 2600 by omega) (Nat.le_of_ble_eq_true rfl), Nat.le_trans (show _ ≤ 17000 by omega) (Nat.le_of_ble_eq_true rfl)⟩) hS (af_le hH hS hA) (fun v_152 φ_153 H locs hw_v_152 hH hS => ?_)
                obtain ⟨rfl, hqv_152⟩ := hw_v_152
                rw [hqv_152] at hH
                refine lv_ldc (pc := 983) (v := (-16830000 : Int32)) S.1 S.2.1 S.2.2.2.1 (S.2.2.2.2 _ tw_887) dL_isRefused_983 ?_
                refine lv_icmp_ne (pc := 985) (tgt := 992) S.1 S.2.1 dL_isRefused_985 (by decide) (fun c9 => absurd c9 (fun h9 => h9 rfl)) (fun c_154 => ?_)
                refine lv_iconst (pc := 988) (v := nI 1) S.1 S.2.1 dL_isRefused_988 (by decide) ?_
                refine lv_goto (pc := 989) (tgt := 993) S.1 S.2.1 dL_isRefused_989 (by decide) ?_
                refine lv_istore (pc := 993) (lv' := [(13, .int (nI 1)), (14, .int (nI k)), (11, .long (allF sc ar w ez o)), (10, .int (nI 0 - nI (x % 30))), (9, .int ((-1 : Int32) - nI (x % 30))), (8, .int ((-1 : Int32) - nI (x % 30))), (7, .int ((-1 : Int32) - nI (x % 30))), (6, .int ((-1 : Int32) - nI (x % 30))), (5, .int ((-1 : Int32) - nI (x % 30))), (4, .int (nI 1)), (0, .ref (az 0)), (1, .ref (az 9)), (2, .ref (az 10)), (3, .int (nI x))]) S.1 S.2.1 dL_isRefused_993 hl (by decide) rfl (fun ls hl => ?_)
                refine lv_iinc (pc := 995) (v := nI (k + 1)) (lv' := [(14, .int (nI (k + 1))), (13, .int (nI 1)), (11, .long (allF sc ar w ez o)), (10, .int (nI 0 - nI (x % 30))), (9, .int ((-1 : Int32) - nI (x % 30))), (8, .int ((-1 : Int32) - nI (x % 30))), (7, .int ((-1 : Int32) - nI (x % 30))), (6, .int ((-1 : Int32) - nI (x % 30))), (5, .int ((-1 : Int32) - nI (x % 30))), (4, .int (nI 1)), (0, .ref (az 0)), (1, .ref (az 9)), (2, .ref (az 10)), (3, .int (nI x))]) S.1 S.2.1 dL_isRefused_995 hl (k := 1) rfl (by first | rfl | exact nI_add _ _) (by decide) rfl (fun ls hl => ?_)
                refine lv_goto (pc := 998) (tgt := 773) S.1 S.2.1 dL_isRefused_998 (by decide) ?_
                refine W.widen (k := 1125 + 40 * (k + 1)) (n := 6769 + 240 * (k + 1)) (by omega) (by omega) ?_
                have hi2 : (k + 1) + (n) = sc 3 := by omega
                have hl2 : lv_has ls 16 [(14, .int (nI (k + 1))), (13, .int (nI 1)), (11, .long (allF sc ar w ez o)), (10, .int (nI 0 - nI (x % 30))), (9, .int ((-1 : Int32) - nI (x % 30))), (8, .int ((-1 : Int32) - nI (x % 30))), (7, .int ((-1 : Int32) - nI (x % 30))), (6, .int ((-1 : Int32) - nI (x % 30))), (5, .int ((-1 : Int32) - nI (x % 30))), (4, .int (nI 1)), (0, .ref (az 0)), (1, .ref (az 9)), (2, .ref (az 10)), (3, .int (nI x))] := lv_sub hl [0, 1, 2, 3, 4, 5, 6, 7, 8, 9, 10, 11, 12, 13] rfl
                apply ih (k := k + 1) <;> assumption
            · skip
              refine hv_ti (y := nI 1) (by rw [if_neg he0]) ?_
              refine hv_if_ne (pc := 954) (tgt := 970) (a := 1) S.1 S.2.1 (by omega) dL_isRefused_954 (by decide) (fun c_155 => ?_) (fun c9 => absurd c9 (by omega))
              refine lv_aload_n (pc := 970) S.1 S.2.1 dL_isRefused_970 rfl (lv_at hl 10 rfl) ?_
              refine lv_iconst (pc := 971) (v := nI 4) S.1 S.2.1 dL_isRefused_971 (by decide) ?_
              refine lv_iload (pc := 972) S.1 S.2.1 dL_isRefused_972 (lv_at hl 0 rfl) ?_
              refine lv_iload_n (pc := 974) S.1 S.2.1 dL_isRefused_974 rfl (lv_at hl 13 rfl) ?_
              refine lv_aload_n (pc := 975) S.1 S.2.1 dL_isRefused_975 rfl (lv_at hl 11 rfl) ?_
              refine lv_iconst (pc := 976) (v := nI 3) S.1 S.2.1 dL_isRefused_976 (by decide) ?_
              refine hv_iald (pc := 977) S hK hH 1 (hY.a0) rfl (vp_in_nI (show 3 < 6 by omega) (by omega)) dL_isRefused_977 ?_
              refine hv_ti (y := nI ((o 0) 3)) (hv_ld (by omega)) ?_
              refine hv_ti (y := nI (sc 5)) (by rw [hm.2.2.2.1]) ?_
              refine lv_irem (pc := 978) S.1 S.2.1 dL_isRefused_978 (fun h9 => hh0 (jI_inj (show nI (sc 5) = nI 0 from h9.trans nI_0.symm) (by omega) (by omega))) ?_
              refine hv_ti (y := nI (x % (sc 5))) (pk_rem (by omega) (by omega) (by omega)) ?_
              refine lv_iconst (pc := 979) (v := nI 0) S.1 S.2.1 dL_isRefused_979 (by decide) ?_
              refine hv_call (pc := 980) (vx_runSW (As := [.ref (az 0), .int (nI 4), .int (nI k), .int (nI (x % (sc 5))), .int (nI 0)]) (rest := []) S (ax_cycle_2 l hfl D cA ga φ H.size az tn tk tm tg sc ar w ez o o (nI k) (nI (x % (sc 5))) (nI 0) hY hI hT h200 (cycleX_2 hk (by omega) (Nat.mod_lt _ (by omega)) (by omega) (Or.inr (Or.inl he0)))) (vx_cwSW 5 S.2.2.2.2 (gSW tw_261 tw_262 tw_0 tw_263) rfl rfl rfl (by decide +kernel) ⟨Nat.le_of_ble_eq_true rfl, Nat.le_of_ble_eq_true rfl⟩) (pre0_S hH hK hX hS hA) rfl rfl hl.1 rfl (lv_room (Nat.le_of_ble_eq_true rfl)) dL_isRefused_980 ⟨Nat.le_trans (show _ ≤ 2600 by omega) (Nat.le_of_ble_eq_true rfl), Nat.le_trans (show _ ≤ 17000 by omega) (Nat.le_of_ble_eq_true rfl)⟩) hS (af_le hH hS hA) (fun v_156 φ_157 H locs hw_v_156 hH hS => ?_)
              obtain ⟨rfl, hqv_156⟩ := hw_v_156
              rw [hqv_156] at hH
              refine lv_ldc (pc := 983) (v := (-16830000 : Int32)) S.1 S.2.1 S.2.2.2.1 (S.2.2.2.2 _ tw_887) dL_isRefused_983 ?_
              refine lv_icmp_ne (pc := 985) (tgt := 992) S.1 S.2.1 dL_isRefused_985 (by decide) (fun c9 => absurd c9 (fun h9 => h9 rfl)) (fun c_158 => ?_)
              refine lv_iconst (pc := 988) (v := nI 1) S.1 S.2.1 dL_isRefused_988 (by decide) ?_
              refine lv_goto (pc := 989) (tgt := 993) S.1 S.2.1 dL_isRefused_989 (by decide) ?_
              refine lv_istore (pc := 993) (lv' := [(13, .int (nI 1)), (14, .int (nI k)), (11, .long (allF sc ar w ez o)), (10, .int (nI 0 - nI (x % 30))), (9, .int ((-1 : Int32) - nI (x % 30))), (8, .int ((-1 : Int32) - nI (x % 30))), (7, .int ((-1 : Int32) - nI (x % 30))), (6, .int ((-1 : Int32) - nI (x % 30))), (5, .int ((-1 : Int32) - nI (x % 30))), (4, .int (nI 1)), (0, .ref (az 0)), (1, .ref (az 9)), (2, .ref (az 10)), (3, .int (nI x))]) S.1 S.2.1 dL_isRefused_993 hl (by decide) rfl (fun ls hl => ?_)
              refine lv_iinc (pc := 995) (v := nI (k + 1)) (lv' := [(14, .int (nI (k + 1))), (13, .int (nI 1)), (11, .long (allF sc ar w ez o)), (10, .int (nI 0 - nI (x % 30))), (9, .int ((-1 : Int32) - nI (x % 30))), (8, .int ((-1 : Int32) - nI (x % 30))), (7, .int ((-1 : Int32) - nI (x % 30))), (6, .int ((-1 : Int32) - nI (x % 30))), (5, .int ((-1 : Int32) - nI (x % 30))), (4, .int (nI 1)), (0, .ref (az 0)), (1, .ref (az 9)), (2, .ref (az 10)), (3, .int (nI x))]) S.1 S.2.1 dL_isRefused_995 hl (k := 1) rfl (by first | rfl | exact nI_add _ _) (by decide) rfl (fun ls hl => ?_)
              refine lv_goto (pc := 998) (tgt := 773) S.1 S.2.1 dL_isRefused_998 (by decide) ?_
              refine W.widen (k := 1125 + 40 * (k + 1)) (n := 6769 + 240 * (k + 1)) (by omega) (by omega) ?_
              have hi2 : (k + 1) + (n) = sc 3 := by omega
              have hl2 : lv_has ls 16 [(14, .int (nI (k + 1))), (13, .int (nI 1)), (11, .long (allF sc ar w ez o)), (10, .int (nI 0 - nI (x % 30))), (9, .int ((-1 : Int32) - nI (x % 30))), (8, .int ((-1 : Int32) - nI (x % 30))), (7, .int ((-1 : Int32) - nI (x % 30))), (6, .int ((-1 : Int32) - nI (x % 30))), (5, .int ((-1 : Int32) - nI (x % 30))), (4, .int (nI 1)), (0, .ref (az 0)), (1, .ref (az 9)), (2, .ref (az 10)), (3, .int (nI x))] := lv_sub hl [0, 1, 2, 3, 4, 5, 6, 7, 8, 9, 10, 11, 12, 13] rfl
              apply ih (k := k + 1) <;> assumption
    | succ n ih =>
      refine lv_iload (pc := 649) S.1 S.2.1 dL_isRefused_649 (lv_at hl 0 rfl) ?_
      refine lv_aload_n (pc := 651) S.1 S.2.1 dL_isRefused_651 rfl (lv_at hl 11 rfl) ?_
      refine lv_iconst (pc := 652) (v := nI 0) S.1 S.2.1 dL_isRefused_652 (by decide) ?_
      refine hv_iald (pc := 653) S hK hH 1 (hY.a0) rfl (vp_in_nI (show 0 < 6 by omega) (by omega)) dL_isRefused_653 ?_
      refine hv_ti (y := nI ((o 0) 0)) (hv_ld (by omega)) ?_
      refine hv_ti (y := nI (sc 2)) (by rw [hm.1]) ?_
      refine hv_icmp_ge (pc := 654) (tgt := 770) (a := k) (b := sc 2) S.1 S.2.1 (by omega) (by omega) dL_isRefused_654 (by decide) (fun c9 => absurd c9 (by omega)) (fun c_159 => ?_)
      refine lv_iload (pc := 657) S.1 S.2.1 dL_isRefused_657 (lv_at hl 1 rfl) ?_
      refine hv_if_eq (pc := 659) (tgt := 770) (a := 1) S.1 S.2.1 (by omega) dL_isRefused_659 (by decide) (fun c9 => absurd c9 (by omega)) (fun c_160 => ?_)
      have hk : k < sc 2 := by omega
      have hg5 := (hI.l2 k).2
      refine lv_aload_n (pc := 662) S.1 S.2.1 dL_isRefused_662 rfl (lv_at hl 10 rfl) ?_
      refine lv_iload (pc := 663) S.1 S.2.1 dL_isRefused_663 (lv_at hl 0 rfl) ?_
      refine hv_call (pc := 665) (va_runV (As := [.int (nI k)]) (rest := []) S (ys_grams l hfl D cA ga φ H.size az tn tk tm tg sc ar w ez o o k hY hI hT hk) (cwV 1 S.2.2.2.2 (gV tw_247 tw_248 tw_249 tw_1 tw_250) rfl rfl rfl (by decide +kernel) ⟨Nat.le_of_ble_eq_true rfl, Nat.le_of_ble_eq_true rfl⟩) (pre0_V hH hK hX hS hA (ycv hH hK hY)) rfl rfl hl.1 rfl (lv_room (Nat.le_of_ble_eq_true rfl)) dL_isRefused_665 ⟨Nat.le_trans (show _ ≤ 2600 by omega) (Nat.le_of_ble_eq_true rfl), Nat.le_trans (show _ ≤ 17000 by omega) (Nat.le_of_ble_eq_true rfl)⟩) hS (af_le hH hS hA) (fun v_161 φ_162 H locs hw_v_161 hH hS => ?_)
      obtain ⟨rfl, hqv_161⟩ := hw_v_161
      rw [hqv_161] at hH
      refine lv_istore (pc := 668) (lv' := [(15, .int (nI (ar 2 k))), (14, .int (nI k)), (13, .int (nI 1)), (11, .long (allF sc ar w ez o)), (10, .int (nI 0 - nI (x % 30))), (9, .int ((-1 : Int32) - nI (x % 30))), (8, .int ((-1 : Int32) - nI (x % 30))), (7, .int ((-1 : Int32) - nI (x % 30))), (6, .int ((-1 : Int32) - nI (x % 30))), (5, .int ((-1 : Int32) - nI (x % 30))), (4, .int (nI 1)), (0, .ref (az 0)), (1, .ref (az 9)), (2, .ref (az 10)), (3, .int (nI x))]) S.1 S.2.1 dL_isRefused_668 hl (by decide) rfl (fun ls hl => ?_)
      refine lv_aload_n (pc := 670) S.1 S.2.1 dL_isRefused_670 rfl (lv_at hl 11 rfl) ?_
      refine lv_iconst (pc := 671) (v := nI 2) S.1 S.2.1 dL_isRefused_671 (by decide) ?_
      refine lv_iload (pc := 672) S.1 S.2.1 dL_isRefused_672 (lv_at hl 1 rfl) ?_
      refine lv_iload (pc := 674) S.1 S.2.1 dL_isRefused_674 (lv_at hl 10 rfl) ?_
      refine hv_if_eq (pc := 676) (tgt := 689) (a := 1) S.1 S.2.1 (by omega) dL_isRefused_676 (by decide) (fun c9 => absurd c9 (by omega)) (fun c_163 => ?_)
      refine lv_bipush (pc := 679) (v := nI 9) S.1 S.2.1 dL_isRefused_679 (by decide) ?_
      refine lv_iload_n (pc := 681) S.1 S.2.1 dL_isRefused_681 rfl (lv_at hl 14 rfl) ?_
      refine lv_bipush (pc := 682) (v := nI 30) S.1 S.2.1 dL_isRefused_682 (by decide) ?_
      refine lv_irem (pc := 684) S.1 S.2.1 dL_isRefused_684 (by decide) ?_
      refine hv_ti (y := nI (x % 30)) (pk_rem (by omega) (by omega) (by omega)) ?_
      refine lv_isub (pc := 685) S.1 S.2.1 dL_isRefused_685 ?_
      refine lv_goto (pc := 686) (tgt := 692) S.1 S.2.1 dL_isRefused_686 (by decide) ?_
      refine lv_iconst (pc := 692) (v := nI 0) S.1 S.2.1 dL_isRefused_692 (by decide) ?_
      refine hv_call (pc := 693) (vx_runSW (As := [.ref (az 0), .int (nI 2), .int (nI k), .int (nI 9 - nI (x % 30)), .int (nI 0)]) (rest := []) S (ax_cone_1 l hfl D cA ga φ H.size az tn tk tm tg sc ar w ez o o (nI k) (nI 9 - nI (x % 30)) (nI 0) hY hI hT h200 (coneX_1 hk (by omega) (lowR (by decide) (by decide) hz30))) (vx_cwSW 5 S.2.2.2.2 (gSW tw_261 tw_262 tw_0 tw_263) rfl rfl rfl (by decide +kernel) ⟨Nat.le_of_ble_eq_true rfl, Nat.le_of_ble_eq_true rfl⟩) (pre0_S hH hK hX hS hA) rfl rfl hl.1 rfl (lv_room (Nat.le_of_ble_eq_true rfl)) dL_isRefused_693 ⟨Nat.le_trans (show _ ≤ 2600 by omega) (Nat.le_of_ble_eq_true rfl), Nat.le_trans (show _ ≤ 17000 by omega) (Nat.le_of_ble_eq_true rfl)⟩) hS (af_le hH hS hA) (fun v_164 φ_165 H locs hw_v_164 hH hS => ?_)
      obtain ⟨rfl, hqv_164⟩ := hw_v_164
      rw [hqv_164] at hH
      refine lv_ldc (pc := 696) (v := (-16820000 : Int32)) S.1 S.2.1 S.2.2.2.1 (S.2.2.2.2 _ tw_886) dL_isRefused_696 ?_
      refine lv_icmp_ne (pc := 698) (tgt := 761) S.1 S.2.1 dL_isRefused_698 (by decide) (fun c9 => absurd c9 (fun h9 => h9 rfl)) (fun c_166 => ?_)
      refine lv_aload_n (pc := 701) S.1 S.2.1 dL_isRefused_701 rfl (lv_at hl 11 rfl) ?_
      refine lv_iconst (pc := 702) (v := nI 2) S.1 S.2.1 dL_isRefused_702 (by decide) ?_
      refine lv_iload (pc := 703) S.1 S.2.1 dL_isRefused_703 (lv_at hl 1 rfl) ?_
      refine lv_bipush (pc := 705) (v := nI 10) S.1 S.2.1 dL_isRefused_705 (by decide) ?_
      refine lv_iload (pc := 707) S.1 S.2.1 dL_isRefused_707 (lv_at hl 5 rfl) ?_
      refine hv_call (pc := 709) (vx_runSW (As := [.ref (az 0), .int (nI 2), .int (nI k), .int (nI 10), .int ((-1 : Int32) - nI (x % 30))]) (rest := []) S (ax_cone_1 l hfl D cA ga φ H.size az tn tk tm tg sc ar w ez o o (nI k) (nI 10) ((-1 : Int32) - nI (x % 30)) hY hI hT h200 (coneX_1t hk (by omega) hsix5)) (vx_cwSW 5 S.2.2.2.2 (gSW tw_261 tw_262 tw_0 tw_263) rfl rfl rfl (by decide +kernel) ⟨Nat.le_of_ble_eq_true rfl, Nat.le_of_ble_eq_true rfl⟩) (pre0_S hH hK hX hS hA) rfl rfl hl.1 rfl (lv_room (Nat.le_of_ble_eq_true rfl)) dL_isRefused_709 ⟨Nat.le_trans (show _ ≤ 2600 by omega) (Nat.le_of_ble_eq_true rfl), Nat.le_trans (show _ ≤ 17000 by omega) (Nat.le_of_ble_eq_true rfl)⟩) hS (af_le hH hS hA) (fun v_167 φ_168 H locs hw_v_167 hH hS => ?_)
      obtain ⟨rfl, hqv_167⟩ := hw_v_167
      rw [hqv_167] at hH
      refine lv_ldc (pc := 712) (v := (-16820000 : Int32)) S.1 S.2.1 S.2.2.2.1 (S.2.2.2.2 _ tw_886) dL_isRefused_712 ?_
      refine lv_icmp_ne (pc := 714) (tgt := 761) S.1 S.2.1 dL_isRefused_714 (by decide) (fun c9 => absurd c9 (fun h9 => h9 rfl)) (fun c_169 => ?_)
      refine lv_iload (pc := 717) S.1 S.2.1 dL_isRefused_717 (lv_at hl 0 rfl) ?_
      refine lv_sipush (pc := 719) (v := nI 500) S.1 S.2.1 dL_isRefused_719 (by decide) ?_
      by_cases hg500 : 500 ≤ ar 2 k
      · skip
        refine hv_icmp_ge (pc := 722) (tgt := 757) (a := ar 2 k) (b := 500) S.1 S.2.1 (by omega) (by omega) dL_isRefused_722 (by decide) (fun c_170 => ?_) (fun c9 => absurd c9 (by omega))
        refine lv_iconst (pc := 757) (v := nI 1) S.1 S.2.1 dL_isRefused_757 (by decide) ?_
        refine lv_goto (pc := 758) (tgt := 762) S.1 S.2.1 dL_isRefused_758 (by decide) ?_
        refine lv_istore (pc := 762) (lv' := [(13, .int (nI 1)), (15, .int (nI (ar 2 k))), (14, .int (nI k)), (11, .long (allF sc ar w ez o)), (10, .int (nI 0 - nI (x % 30))), (9, .int ((-1 : Int32) - nI (x % 30))), (8, .int ((-1 : Int32) - nI (x % 30))), (7, .int ((-1 : Int32) - nI (x % 30))), (6, .int ((-1 : Int32) - nI (x % 30))), (5, .int ((-1 : Int32) - nI (x % 30))), (4, .int (nI 1)), (0, .ref (az 0)), (1, .ref (az 9)), (2, .ref (az 10)), (3, .int (nI x))]) S.1 S.2.1 dL_isRefused_762 hl (by decide) rfl (fun ls hl => ?_)
        refine lv_iinc (pc := 764) (v := nI (k + 1)) (lv' := [(14, .int (nI (k + 1))), (13, .int (nI 1)), (15, .int (nI (ar 2 k))), (11, .long (allF sc ar w ez o)), (10, .int (nI 0 - nI (x % 30))), (9, .int ((-1 : Int32) - nI (x % 30))), (8, .int ((-1 : Int32) - nI (x % 30))), (7, .int ((-1 : Int32) - nI (x % 30))), (6, .int ((-1 : Int32) - nI (x % 30))), (5, .int ((-1 : Int32) - nI (x % 30))), (4, .int (nI 1)), (0, .ref (az 0)), (1, .ref (az 9)), (2, .ref (az 10)), (3, .int (nI x))]) S.1 S.2.1 dL_isRefused_764 hl (k := 2) rfl (by first | rfl | exact nI_add _ _) (by decide) rfl (fun ls hl => ?_)
        refine lv_goto (pc := 767) (tgt := 649) S.1 S.2.1 dL_isRefused_767 (by decide) ?_
        refine W.widen (k := 835 + 29 * (k + 1)) (n := 4999 + 177 * (k + 1)) (by omega) (by omega) ?_
        have hi2 : (k + 1) + (n) = sc 2 := by omega
        have hl2 : lv_has ls 16 [(14, .int (nI (k + 1))), (13, .int (nI 1)), (11, .long (allF sc ar w ez o)), (10, .int (nI 0 - nI (x % 30))), (9, .int ((-1 : Int32) - nI (x % 30))), (8, .int ((-1 : Int32) - nI (x % 30))), (7, .int ((-1 : Int32) - nI (x % 30))), (6, .int ((-1 : Int32) - nI (x % 30))), (5, .int ((-1 : Int32) - nI (x % 30))), (4, .int (nI 1)), (0, .ref (az 0)), (1, .ref (az 9)), (2, .ref (az 10)), (3, .int (nI x))] := lv_sub hl [0, 1, 3, 4, 5, 6, 7, 8, 9, 10, 11, 12, 13, 14] rfl
        apply ih (k := k + 1) <;> assumption
      · skip
        refine hv_icmp_ge (pc := 722) (tgt := 757) (a := ar 2 k) (b := 500) S.1 S.2.1 (by omega) (by omega) dL_isRefused_722 (by decide) (fun c9 => absurd c9 (by omega)) (fun c_171 => ?_)
        refine lv_aload_n (pc := 725) S.1 S.2.1 dL_isRefused_725 rfl (lv_at hl 11 rfl) ?_
        refine lv_iconst (pc := 726) (v := nI 2) S.1 S.2.1 dL_isRefused_726 (by decide) ?_
        refine lv_iload (pc := 727) S.1 S.2.1 dL_isRefused_727 (lv_at hl 1 rfl) ?_
        refine lv_iload (pc := 729) S.1 S.2.1 dL_isRefused_729 (lv_at hl 0 rfl) ?_
        refine lv_bipush (pc := 731) (v := nI 9) S.1 S.2.1 dL_isRefused_731 (by decide) ?_
        by_cases hg9 : 9 ≤ ar 2 k
        · skip
          refine hv_icmp_ge (pc := 733) (tgt := 741) (a := ar 2 k) (b := 9) S.1 S.2.1 (by omega) (by omega) dL_isRefused_733 (by decide) (fun c_172 => ?_) (fun c9 => absurd c9 (by omega))
          refine lv_iload (pc := 741) S.1 S.2.1 dL_isRefused_741 (lv_at hl 0 rfl) ?_
          refine lv_iconst (pc := 743) (v := nI 1) S.1 S.2.1 dL_isRefused_743 (by decide) ?_
          refine lv_iadd (pc := 744) S.1 S.2.1 dL_isRefused_744 ?_
          refine hv_ti (y := nI ((ar 2 k) + 1)) (nI_add _ _) ?_
          refine lv_iload_n (pc := 745) S.1 S.2.1 dL_isRefused_745 rfl (lv_at hl 14 rfl) ?_
          refine lv_bipush (pc := 746) (v := nI 6) S.1 S.2.1 dL_isRefused_746 (by decide) ?_
          refine lv_irem (pc := 748) S.1 S.2.1 dL_isRefused_748 (by decide) ?_
          refine hv_ti (y := nI (x % 6)) (pk_rem (by omega) (by omega) (by omega)) ?_
          refine hv_call (pc := 749) (vx_runSW (As := [.ref (az 0), .int (nI 2), .int (nI k), .int (nI ((ar 2 k) + 1)), .int (nI (x % 6))]) (rest := []) S (ax_cone_2 l hfl D cA ga φ H.size az tn tk tm tg sc ar w ez o o (nI k) (nI ((ar 2 k) + 1)) (nI (x % 6)) hY hI hT h200 (coneX_2 hk (by omega) (by omega) (by omega) (by omega) (Or.inl (by omega)))) (vx_cwSW 5 S.2.2.2.2 (gSW tw_261 tw_262 tw_0 tw_263) rfl rfl rfl (by decide +kernel) ⟨Nat.le_of_ble_eq_true rfl, Nat.le_of_ble_eq_true rfl⟩) (pre0_S hH hK hX hS hA) rfl rfl hl.1 rfl (lv_room (Nat.le_of_ble_eq_true rfl)) dL_isRefused_749 ⟨Nat.le_trans (show _ ≤ 2600 by omega) (Nat.le_of_ble_eq_true rfl), Nat.le_trans (show _ ≤ 17000 by omega) (Nat.le_of_ble_eq_true rfl)⟩) hS (af_le hH hS hA) (fun v_173 φ_174 H locs hw_v_173 hH hS => ?_)
          obtain ⟨rfl, hqv_173⟩ := hw_v_173
          rw [hqv_173] at hH
          refine lv_ldc (pc := 752) (v := (-16830000 : Int32)) S.1 S.2.1 S.2.2.2.1 (S.2.2.2.2 _ tw_887) dL_isRefused_752 ?_
          refine lv_icmp_ne (pc := 754) (tgt := 761) S.1 S.2.1 dL_isRefused_754 (by decide) (fun c9 => absurd c9 (fun h9 => h9 rfl)) (fun c_175 => ?_)
          refine lv_iconst (pc := 757) (v := nI 1) S.1 S.2.1 dL_isRefused_757 (by decide) ?_
          refine lv_goto (pc := 758) (tgt := 762) S.1 S.2.1 dL_isRefused_758 (by decide) ?_
          refine lv_istore (pc := 762) (lv' := [(13, .int (nI 1)), (15, .int (nI (ar 2 k))), (14, .int (nI k)), (11, .long (allF sc ar w ez o)), (10, .int (nI 0 - nI (x % 30))), (9, .int ((-1 : Int32) - nI (x % 30))), (8, .int ((-1 : Int32) - nI (x % 30))), (7, .int ((-1 : Int32) - nI (x % 30))), (6, .int ((-1 : Int32) - nI (x % 30))), (5, .int ((-1 : Int32) - nI (x % 30))), (4, .int (nI 1)), (0, .ref (az 0)), (1, .ref (az 9)), (2, .ref (az 10)), (3, .int (nI x))]) S.1 S.2.1 dL_isRefused_762 hl (by decide) rfl (fun ls hl => ?_)
          refine lv_iinc (pc := 764) (v := nI (k + 1)) (lv' := [(14, .int (nI (k + 1))), (13, .int (nI 1)), (15, .int (nI (ar 2 k))), (11, .long (allF sc ar w ez o)), (10, .int (nI 0 - nI (x % 30))), (9, .int ((-1 : Int32) - nI (x % 30))), (8, .int ((-1 : Int32) - nI (x % 30))), (7, .int ((-1 : Int32) - nI (x % 30))), (6, .int ((-1 : Int32) - nI (x % 30))), (5, .int ((-1 : Int32) - nI (x % 30))), (4, .int (nI 1)), (0, .ref (az 0)), (1, .ref (az 9)), (2, .ref (az 10)), (3, .int (nI x))]) S.1 S.2.1 dL_isRefused_764 hl (k := 2) rfl (by first | rfl | exact nI_add _ _) (by decide) rfl (fun ls hl => ?_)
          refine lv_goto (pc := 767) (tgt := 649) S.1 S.2.1 dL_isRefused_767 (by decide) ?_
          refine W.widen (k := 835 + 29 * (k + 1)) (n := 4999 + 177 * (k + 1)) (by omega) (by omega) ?_
          have hi2 : (k + 1) + (n) = sc 2 := by omega
          have hl2 : lv_has ls 16 [(14, .int (nI (k + 1))), (13, .int (nI 1)), (11, .long (allF sc ar w ez o)), (10, .int (nI 0 - nI (x % 30))), (9, .int ((-1 : Int32) - nI (x % 30))), (8, .int ((-1 : Int32) - nI (x % 30))), (7, .int ((-1 : Int32) - nI (x % 30))), (6, .int ((-1 : Int32) - nI (x % 30))), (5, .int ((-1 : Int32) - nI (x % 30))), (4, .int (nI 1)), (0, .ref (az 0)), (1, .ref (az 9)), (2, .ref (az 10)), (3, .int (nI x))] := lv_sub hl [0, 1, 3, 4, 5, 6, 7, 8, 9, 10, 11, 12, 13, 14] rfl
          apply ih (k := k + 1) <;> assumption
        · skip
          refine hv_icmp_ge (pc := 733) (tgt := 741) (a := ar 2 k) (b := 9) S.1 S.2.1 (by omega) (by omega) dL_isRefused_733 (by decide) (fun c9 => absurd c9 (by omega)) (fun c_176 => ?_)
          refine lv_bipush (pc := 736) (v := nI 10) S.1 S.2.1 dL_isRefused_736 (by decide) ?_
          refine lv_goto (pc := 738) (tgt := 745) S.1 S.2.1 dL_isRefused_738 (by decide) ?_
          refine lv_iload_n (pc := 745) S.1 S.2.1 dL_isRefused_745 rfl (lv_at hl 14 rfl) ?_
          refine lv_bipush (pc := 746) (v := nI 6) S.1 S.2.1 dL_isRefused_746 (by decide) ?_
          refine lv_irem (pc := 748) S.1 S.2.1 dL_isRefused_748 (by decide) ?_
          refine hv_ti (y := nI (x % 6)) (pk_rem (by omega) (by omega) (by omega)) ?_
          refine hv_call (pc := 749) (vx_runSW (As := [.ref (az 0), .int (nI 2), .int (nI k), .int (nI 10), .int (nI (x % 6))]) (rest := []) S (ax_cone_2 l hfl D cA ga φ H.size az tn tk tm tg sc ar w ez o o (nI k) (nI 10) (nI (x % 6)) hY hI hT h200 (coneX_2 hk (by omega) (by omega) (by omega) (by omega) (Or.inl (by omega)))) (vx_cwSW 5 S.2.2.2.2 (gSW tw_261 tw_262 tw_0 tw_263) rfl rfl rfl (by decide +kernel) ⟨Nat.le_of_ble_eq_true rfl, Nat.le_of_ble_eq_true rfl⟩) (pre0_S hH hK hX hS hA) rfl rfl hl.1 rfl (lv_room (Nat.le_of_ble_eq_true rfl)) dL_isRefused_749 ⟨Nat.le_trans (show _ ≤ 2600 by omega) (Nat.le_of_ble_eq_true rfl), Nat.le_trans (show _ ≤ 17000 by omega) (Nat.le_of_ble_eq_true rfl)⟩) hS (af_le hH hS hA) (fun v_177 φ_178 H locs hw_v_177 hH hS => ?_)
          obtain ⟨rfl, hqv_177⟩ := hw_v_177
          rw [hqv_177] at hH
          refine lv_ldc (pc := 752) (v := (-16830000 : Int32)) S.1 S.2.1 S.2.2.2.1 (S.2.2.2.2 _ tw_887) dL_isRefused_752 ?_
          refine lv_icmp_ne (pc := 754) (tgt := 761) S.1 S.2.1 dL_isRefused_754 (by decide) (fun c9 => absurd c9 (fun h9 => h9 rfl)) (fun c_179 => ?_)
          refine lv_iconst (pc := 757) (v := nI 1) S.1 S.2.1 dL_isRefused_757 (by decide) ?_
          refine lv_goto (pc := 758) (tgt := 762) S.1 S.2.1 dL_isRefused_758 (by decide) ?_
          refine lv_istore (pc := 762) (lv' := [(13, .int (nI 1)), (15, .int (nI (ar 2 k))), (14, .int (nI k)), (11, .long (allF sc ar w ez o)), (10, .int (nI 0 - nI (x % 30))), (9, .int ((-1 : Int32) - nI (x % 30))), (8, .int ((-1 : Int32) - nI (x % 30))), (7, .int ((-1 : Int32) - nI (x % 30))), (6, .int ((-1 : Int32) - nI (x % 30))), (5, .int ((-1 : Int32) - nI (x % 30))), (4, .int (nI 1)), (0, .ref (az 0)), (1, .ref (az 9)), (2, .ref (az 10)), (3, .int (nI x))]) S.1 S.2.1 dL_isRefused_762 hl (by decide) rfl (fun ls hl => ?_)
          refine lv_iinc (pc := 764) (v := nI (k + 1)) (lv' := [(14, .int (nI (k + 1))), (13, .int (nI 1)), (15, .int (nI (ar 2 k))), (11, .long (allF sc ar w ez o)), (10, .int (nI 0 - nI (x % 30))), (9, .int ((-1 : Int32) - nI (x % 30))), (8, .int ((-1 : Int32) - nI (x % 30))), (7, .int ((-1 : Int32) - nI (x % 30))), (6, .int ((-1 : Int32) - nI (x % 30))), (5, .int ((-1 : Int32) - nI (x % 30))), (4, .int (nI 1)), (0, .ref (az 0)), (1, .ref (az 9)), (2, .ref (az 10)), (3, .int (nI x))]) S.1 S.2.1 dL_isRefused_764 hl (k := 2) rfl (by first | rfl | exact nI_add _ _) (by decide) rfl (fun ls hl => ?_)
          refine lv_goto (pc := 767) (tgt := 649) S.1 S.2.1 dL_isRefused_767 (by decide) ?_
          refine W.widen (k := 835 + 29 * (k + 1)) (n := 4999 + 177 * (k + 1)) (by omega) (by omega) ?_
          have hi2 : (k + 1) + (n) = sc 2 := by omega
          have hl2 : lv_has ls 16 [(14, .int (nI (k + 1))), (13, .int (nI 1)), (11, .long (allF sc ar w ez o)), (10, .int (nI 0 - nI (x % 30))), (9, .int ((-1 : Int32) - nI (x % 30))), (8, .int ((-1 : Int32) - nI (x % 30))), (7, .int ((-1 : Int32) - nI (x % 30))), (6, .int ((-1 : Int32) - nI (x % 30))), (5, .int ((-1 : Int32) - nI (x % 30))), (4, .int (nI 1)), (0, .ref (az 0)), (1, .ref (az 9)), (2, .ref (az 10)), (3, .int (nI x))] := lv_sub hl [0, 1, 3, 4, 5, 6, 7, 8, 9, 10, 11, 12, 13, 14] rfl
          apply ih (k := k + 1) <;> assumption
  by_cases h7 : tk < 7
  · skip
    refine hv_icmp_lt (pc := 622) (tgt := 639) (a := tk) (b := 7) S.1 S.2.1 (by omega) (by omega) dL_isRefused_622 (by decide) (fun c_180 => ?_) (fun c9 => absurd c9 (by omega))
    refine W.widen (k := 835) (n := 4999) (by omega) (by omega) ?_
    exact h639 ls H locs hH hS (lv_sub hl [0, 1, 2, 3, 4, 5, 6, 7, 8, 9, 10, 11] rfl)
  · skip
    refine hv_icmp_lt (pc := 622) (tgt := 639) (a := tk) (b := 7) S.1 S.2.1 (by omega) (by omega) dL_isRefused_622 (by decide) (fun c9 => absurd c9 (by omega)) (fun c_181 => ?_)
    refine lv_aload_n (pc := 625) S.1 S.2.1 dL_isRefused_625 rfl (lv_at hl 8 rfl) ?_
    refine lv_iconst (pc := 626) (v := nI 0) S.1 S.2.1 dL_isRefused_626 (by decide) ?_
    refine lv_bipush (pc := 627) (v := nI 97) S.1 S.2.1 dL_isRefused_627 (by decide) ?_
    refine lv_iconst (pc := 629) (v := nI 0) S.1 S.2.1 dL_isRefused_629 (by decide) ?_
    refine lv_iconst (pc := 630) (v := nI 0) S.1 S.2.1 dL_isRefused_630 (by decide) ?_
    refine hv_call (pc := 631) (vx_runSW (As := [.ref (az 0), .int (nI 0), .int (nI 97), .int (nI 0), .int (nI 0)]) (rest := []) S (ax_letter_2 l hfl D cA ga φ H.size az tn tk tm tg sc ar w ez o o (nI 97) (nI 0) (nI 0) hY hI hT h200 (letterX_2 (by omega))) (vx_cwSW 5 S.2.2.2.2 (gSW tw_261 tw_262 tw_0 tw_263) rfl rfl rfl (by decide +kernel) ⟨Nat.le_of_ble_eq_true rfl, Nat.le_of_ble_eq_true rfl⟩) (pre0_S hH hK hX hS hA) rfl rfl hl.1 rfl (lv_room (Nat.le_of_ble_eq_true rfl)) dL_isRefused_631 ⟨Nat.le_trans (show _ ≤ 2600 by omega) (Nat.le_of_ble_eq_true rfl), Nat.le_trans (show _ ≤ 17000 by omega) (Nat.le_of_ble_eq_true rfl)⟩) hS (af_le hH hS hA) (fun v_182 φ_183 H locs hw_v_182 hH hS => ?_)
    obtain ⟨rfl, hqv_182⟩ := hw_v_182
    rw [hqv_182] at hH
    refine lv_ldc (pc := 634) (v := (-16830000 : Int32)) S.1 S.2.1 S.2.2.2.1 (S.2.2.2.2 _ tw_887) dL_isRefused_634 ?_
    refine lv_icmp_ne (pc := 636) (tgt := 643) S.1 S.2.1 dL_isRefused_636 (by decide) (fun c9 => absurd c9 (fun h9 => h9 rfl)) (fun c_184 => ?_)
    refine W.widen (k := 835) (n := 4999) (by omega) (by omega) ?_
    exact h639 ls H locs hH hS (lv_sub hl [0, 1, 2, 3, 4, 5, 6, 7, 8, 9, 10, 11] rfl)

set_option maxHeartbeats 4000000 in
set_option maxRecDepth 100000 in
/-- isRefused(o, m, c, x) -/
theorem l_isRefused1 (l : Launch) (hfl : l.stackTraces = false) (D : va_G) (cA : Nat → ClassId) (ga : Nat → Nat → Nat) (φ : hpM) (sz : Nat) (az : Nat → Nat) (tn tk tm : Nat) (tg sc : Nat → Nat) (ar : Nat → Nat → Nat) (w : Nat → Nat → Nat → Nat) (ez o : Nat → Nat → Nat) (x : Nat) (hY : YW cA ga az tk tm tg sc ar w ez o φ) (hI : LI tn sc ar w ez o) (hT : TY tk tg) (h200 : tn ≤ 200) (h5 : o 0 5 = tk) (hx : x < 2 ^ 31) (hx2 : x % 2 = 1) : hM l yL_isRefused cL_isRefused 16 (some .boolean) { frames := 16, cells := 2600, slots := 17000, locals := 680 } [.ref (az 0), .ref (az 9), .ref (az 10), .int (nI x)] D cA ga φ sz (fun v φ' => v = some (.int (nI 1)) ∧ φ' = φ) 2600 17000 := by
  refine hM.of (by decide) (Nat.le_of_ble_eq_true rfl) rfl ?_
  intro p e s m args below meth c ls H locs S hr hlocks hnm hsz hHz hH hK hX hS hA hl
  have hl1 := hI.l1
  have hm := hI.lm
  have hk7 := hT.1
  have hz30 : x % 30 < 30 := Nat.mod_lt _ (by decide)
  refine lv_iload_n (pc := 0) S.1 S.2.1 dL_isRefused_0 rfl (lv_at hl 3 rfl) ?_
  refine lv_iconst (pc := 1) (v := nI 2) S.1 S.2.1 dL_isRefused_1 (by decide) ?_
  refine lv_irem (pc := 2) S.1 S.2.1 dL_isRefused_2 (by decide) ?_
  refine hv_ti (y := nI (x % 2)) (pk_rem (by omega) (by omega) (by omega)) ?_
  refine hv_if_ne (pc := 3) (tgt := 10) (a := x % 2) S.1 S.2.1 (by omega) dL_isRefused_3 (by decide) (fun c_1 => ?_) (fun c9 => absurd c9 (by omega))
  refine lv_iconst (pc := 10) (v := nI 0) S.1 S.2.1 dL_isRefused_10 (by decide) ?_
  refine lv_istore (pc := 11) (lv' := [(4, .int (nI 0)), (0, .ref (az 0)), (1, .ref (az 9)), (2, .ref (az 10)), (3, .int (nI x))]) S.1 S.2.1 dL_isRefused_11 hl (by decide) rfl (fun ls hl => ?_)
  refine lv_iload (pc := 13) S.1 S.2.1 dL_isRefused_13 (lv_at hl 0 rfl) ?_
  refine hv_if_eq (pc := 15) (tgt := 27) (a := 0) S.1 S.2.1 (by omega) dL_isRefused_15 (by decide) (fun c_2 => ?_) (fun c9 => absurd c9 (by omega))
  refine lv_aload_n (pc := 27) S.1 S.2.1 dL_isRefused_27 rfl (lv_at hl 2 rfl) ?_
  refine lv_iconst (pc := 28) (v := nI 1) S.1 S.2.1 dL_isRefused_28 (by decide) ?_
  refine hv_iald (pc := 29) S hK hH 1 (hY.a0) rfl (vp_in_nI (show 1 < 6 by omega) (by omega)) dL_isRefused_29 ?_
  refine hv_ti (y := nI ((o 0) 1)) (hv_ld (by omega)) ?_
  refine hv_ti (y := nI (sc 3)) (by rw [hm.2.1]) ?_
  refine lv_iload_n (pc := 30) S.1 S.2.1 dL_isRefused_30 rfl (lv_at hl 4 rfl) ?_
  refine lv_bipush (pc := 31) (v := nI 30) S.1 S.2.1 dL_isRefused_31 (by decide) ?_
  refine lv_irem (pc := 33) S.1 S.2.1 dL_isRefused_33 (by decide) ?_
  refine hv_ti (y := nI (x % 30)) (pk_rem (by omega) (by omega) (by omega)) ?_
  refine lv_iadd (pc := 34) S.1 S.2.1 dL_isRefused_34 ?_
  refine hv_ti (y := nI ((sc 3) + (x % 30))) (nI_add _ _) ?_
  refine lv_istore (pc := 35) (lv' := [(5, .int (nI ((sc 3) + (x % 30)))), (4, .int (nI 0)), (0, .ref (az 0)), (1, .ref (az 9)), (2, .ref (az 10)), (3, .int (nI x))]) S.1 S.2.1 dL_isRefused_35 hl (by decide) rfl (fun ls hl => ?_)
  refine lv_iload (pc := 37) S.1 S.2.1 dL_isRefused_37 (lv_at hl 1 rfl) ?_
  refine hv_if_eq (pc := 39) (tgt := 51) (a := 0) S.1 S.2.1 (by omega) dL_isRefused_39 (by decide) (fun c_3 => ?_) (fun c9 => absurd c9 (by omega))
  refine lv_aload_n (pc := 51) S.1 S.2.1 dL_isRefused_51 rfl (lv_at hl 3 rfl) ?_
  refine lv_iconst (pc := 52) (v := nI 0) S.1 S.2.1 dL_isRefused_52 (by decide) ?_
  refine hv_iald (pc := 53) S hK hH 1 (hY.a0) rfl (vp_in_nI (show 0 < 6 by omega) (by omega)) dL_isRefused_53 ?_
  refine hv_ti (y := nI ((o 0) 0)) (hv_ld (by omega)) ?_
  refine hv_ti (y := nI (sc 2)) (by rw [hm.1]) ?_
  refine lv_iload_n (pc := 54) S.1 S.2.1 dL_isRefused_54 rfl (lv_at hl 5 rfl) ?_
  refine lv_bipush (pc := 55) (v := nI 30) S.1 S.2.1 dL_isRefused_55 (by decide) ?_
  refine lv_irem (pc := 57) S.1 S.2.1 dL_isRefused_57 (by decide) ?_
  refine hv_ti (y := nI (x % 30)) (pk_rem (by omega) (by omega) (by omega)) ?_
  refine lv_iadd (pc := 58) S.1 S.2.1 dL_isRefused_58 ?_
  refine hv_ti (y := nI ((sc 2) + (x % 30))) (nI_add _ _) ?_
  refine lv_istore (pc := 59) (lv' := [(6, .int (nI ((sc 2) + (x % 30)))), (5, .int (nI ((sc 3) + (x % 30)))), (4, .int (nI 0)), (0, .ref (az 0)), (1, .ref (az 9)), (2, .ref (az 10)), (3, .int (nI x))]) S.1 S.2.1 dL_isRefused_59 hl (by decide) rfl (fun ls hl => ?_)
  refine lv_iload (pc := 61) S.1 S.2.1 dL_isRefused_61 (lv_at hl 2 rfl) ?_
  refine hv_if_eq (pc := 63) (tgt := 75) (a := 0) S.1 S.2.1 (by omega) dL_isRefused_63 (by decide) (fun c_4 => ?_) (fun c9 => absurd c9 (by omega))
  refine lv_aload_n (pc := 75) S.1 S.2.1 dL_isRefused_75 rfl (lv_at hl 4 rfl) ?_
  refine lv_iconst (pc := 76) (v := nI 2) S.1 S.2.1 dL_isRefused_76 (by decide) ?_
  refine hv_iald (pc := 77) S hK hH 1 (hY.a0) rfl (vp_in_nI (show 2 < 6 by omega) (by omega)) dL_isRefused_77 ?_
  refine hv_ti (y := nI ((o 0) 2)) (hv_ld (by omega)) ?_
  refine hv_ti (y := nI (sc 4)) (by rw [hm.2.2.1]) ?_
  refine lv_iload_n (pc := 78) S.1 S.2.1 dL_isRefused_78 rfl (lv_at hl 6 rfl) ?_
  refine lv_bipush (pc := 79) (v := nI 30) S.1 S.2.1 dL_isRefused_79 (by decide) ?_
  refine lv_irem (pc := 81) S.1 S.2.1 dL_isRefused_81 (by decide) ?_
  refine hv_ti (y := nI (x % 30)) (pk_rem (by omega) (by omega) (by omega)) ?_
  refine lv_iadd (pc := 82) S.1 S.2.1 dL_isRefused_82 ?_
  refine hv_ti (y := nI ((sc 4) + (x % 30))) (nI_add _ _) ?_
  refine lv_istore (pc := 83) (lv' := [(7, .int (nI ((sc 4) + (x % 30)))), (6, .int (nI ((sc 2) + (x % 30)))), (5, .int (nI ((sc 3) + (x % 30)))), (4, .int (nI 0)), (0, .ref (az 0)), (1, .ref (az 9)), (2, .ref (az 10)), (3, .int (nI x))]) S.1 S.2.1 dL_isRefused_83 hl (by decide) rfl (fun ls hl => ?_)
  refine lv_iload (pc := 85) S.1 S.2.1 dL_isRefused_85 (lv_at hl 3 rfl) ?_
  refine hv_if_eq (pc := 87) (tgt := 99) (a := 0) S.1 S.2.1 (by omega) dL_isRefused_87 (by decide) (fun c_5 => ?_) (fun c9 => absurd c9 (by omega))
  refine lv_aload_n (pc := 99) S.1 S.2.1 dL_isRefused_99 rfl (lv_at hl 5 rfl) ?_
  refine lv_iconst (pc := 100) (v := nI 3) S.1 S.2.1 dL_isRefused_100 (by decide) ?_
  refine hv_iald (pc := 101) S hK hH 1 (hY.a0) rfl (vp_in_nI (show 3 < 6 by omega) (by omega)) dL_isRefused_101 ?_
  refine hv_ti (y := nI ((o 0) 3)) (hv_ld (by omega)) ?_
  refine hv_ti (y := nI (sc 5)) (by rw [hm.2.2.2.1]) ?_
  refine lv_iload_n (pc := 102) S.1 S.2.1 dL_isRefused_102 rfl (lv_at hl 7 rfl) ?_
  refine lv_bipush (pc := 103) (v := nI 30) S.1 S.2.1 dL_isRefused_103 (by decide) ?_
  refine lv_irem (pc := 105) S.1 S.2.1 dL_isRefused_105 (by decide) ?_
  refine hv_ti (y := nI (x % 30)) (pk_rem (by omega) (by omega) (by omega)) ?_
  refine lv_iadd (pc := 106) S.1 S.2.1 dL_isRefused_106 ?_
  refine hv_ti (y := nI ((sc 5) + (x % 30))) (nI_add _ _) ?_
  refine lv_istore (pc := 107) (lv' := [(8, .int (nI ((sc 5) + (x % 30)))), (7, .int (nI ((sc 4) + (x % 30)))), (6, .int (nI ((sc 2) + (x % 30)))), (5, .int (nI ((sc 3) + (x % 30)))), (4, .int (nI 0)), (0, .ref (az 0)), (1, .ref (az 9)), (2, .ref (az 10)), (3, .int (nI x))]) S.1 S.2.1 dL_isRefused_107 hl (by decide) rfl (fun ls hl => ?_)
  refine lv_iload (pc := 109) S.1 S.2.1 dL_isRefused_109 (lv_at hl 4 rfl) ?_
  refine hv_if_eq (pc := 111) (tgt := 123) (a := 0) S.1 S.2.1 (by omega) dL_isRefused_111 (by decide) (fun c_6 => ?_) (fun c9 => absurd c9 (by omega))
  refine lv_bipush (pc := 123) (v := nI 6) S.1 S.2.1 dL_isRefused_123 (by decide) ?_
  refine lv_iload_n (pc := 125) S.1 S.2.1 dL_isRefused_125 rfl (lv_at hl 8 rfl) ?_
  refine lv_bipush (pc := 126) (v := nI 30) S.1 S.2.1 dL_isRefused_126 (by decide) ?_
  refine lv_irem (pc := 128) S.1 S.2.1 dL_isRefused_128 (by decide) ?_
  refine hv_ti (y := nI (x % 30)) (pk_rem (by omega) (by omega) (by omega)) ?_
  refine lv_iadd (pc := 129) S.1 S.2.1 dL_isRefused_129 ?_
  refine hv_ti (y := nI (6 + (x % 30))) (nI_add _ _) ?_
  refine lv_istore (pc := 130) (lv' := [(9, .int (nI (6 + (x % 30)))), (8, .int (nI ((sc 5) + (x % 30)))), (7, .int (nI ((sc 4) + (x % 30)))), (6, .int (nI ((sc 2) + (x % 30)))), (5, .int (nI ((sc 3) + (x % 30)))), (4, .int (nI 0)), (0, .ref (az 0)), (1, .ref (az 9)), (2, .ref (az 10)), (3, .int (nI x))]) S.1 S.2.1 dL_isRefused_130 hl (by decide) rfl (fun ls hl => ?_)
  refine lv_iload (pc := 132) S.1 S.2.1 dL_isRefused_132 (lv_at hl 5 rfl) ?_
  refine hv_if_eq (pc := 134) (tgt := 146) (a := 0) S.1 S.2.1 (by omega) dL_isRefused_134 (by decide) (fun c_7 => ?_) (fun c9 => absurd c9 (by omega))
  refine lv_bipush (pc := 146) (v := nI 101) S.1 S.2.1 dL_isRefused_146 (by decide) ?_
  refine lv_iload_n (pc := 148) S.1 S.2.1 dL_isRefused_148 rfl (lv_at hl 9 rfl) ?_
  refine lv_bipush (pc := 149) (v := nI 30) S.1 S.2.1 dL_isRefused_149 (by decide) ?_
  refine lv_irem (pc := 151) S.1 S.2.1 dL_isRefused_151 (by decide) ?_
  refine hv_ti (y := nI (x % 30)) (pk_rem (by omega) (by omega) (by omega)) ?_
  refine lv_iadd (pc := 152) S.1 S.2.1 dL_isRefused_152 ?_
  refine hv_ti (y := nI (101 + (x % 30))) (nI_add _ _) ?_
  refine lv_istore (pc := 153) (lv' := [(10, .int (nI (101 + (x % 30)))), (9, .int (nI (6 + (x % 30)))), (8, .int (nI ((sc 5) + (x % 30)))), (7, .int (nI ((sc 4) + (x % 30)))), (6, .int (nI ((sc 2) + (x % 30)))), (5, .int (nI ((sc 3) + (x % 30)))), (4, .int (nI 0)), (0, .ref (az 0)), (1, .ref (az 9)), (2, .ref (az 10)), (3, .int (nI x))]) S.1 S.2.1 dL_isRefused_153 hl (by decide) rfl (fun ls hl => ?_)
  refine lv_aload_n (pc := 155) S.1 S.2.1 dL_isRefused_155 rfl (lv_at hl 7 rfl) ?_
  refine lv_aload_n (pc := 156) S.1 S.2.1 dL_isRefused_156 rfl (lv_at hl 8 rfl) ?_
  refine hv_call (pc := 157) (va_runS (As := [.ref (az 0), .ref (az 9)]) (rest := []) S (l_all l hfl D cA ga φ H.size az tn tk tm tg sc ar w ez o hY hI hT) (va_cwS 2 S.2.2.2.2 (gS tw_891 tw_892 tw_0 tw_893) rfl rfl rfl (by decide +kernel) ⟨Nat.le_of_ble_eq_true rfl, Nat.le_of_ble_eq_true rfl⟩) (pre0_S hH hK hX hS hA) rfl rfl hl.1 rfl (lv_room (Nat.le_of_ble_eq_true rfl)) dL_isRefused_157 ⟨Nat.le_trans (show _ ≤ 2600 by omega) (Nat.le_of_ble_eq_true rfl), Nat.le_trans (show _ ≤ 17000 by omega) (Nat.le_of_ble_eq_true rfl)⟩) hS (af_le hH hS hA) (fun v_8 φ_9 H locs hw_v_8 hH hS => ?_)
  obtain ⟨rfl, hqv_8⟩ := hw_v_8
  rw [hqv_8] at hH
  have hcone : ¬ inN (nI ((sc 3) + (x % 30))) (sc 3) := highN (by omega) (by omega)
  have hlot : ¬ inN (nI ((sc 2) + (x % 30))) (sc 2) := highN (by omega) (by omega)
  have hblock : ¬ inN (nI ((sc 4) + (x % 30))) (sc 4) := highN (by omega) (by omega)
  have hhand : ¬ inN (nI ((sc 5) + (x % 30))) (sc 5) := highN (by omega) (by omega)
  have hsix : ¬ inN (nI (6 + (x % 30))) (6) := highN (by omega) (by omega)
  have hsix5 : ¬ inR (nI (6 + (x % 30))) 0 5 := highR (by omega) (by omega) (by decide)
  have hhun : ¬ inR (nI (101 + (x % 30))) 1 100 := highR (by omega) (by omega) (by decide)
  refine lv_lstore (pc := 160) (lv' := [(11, .long (allF sc ar w ez o)), (10, .int (nI (101 + (x % 30)))), (9, .int (nI (6 + (x % 30)))), (8, .int (nI ((sc 5) + (x % 30)))), (7, .int (nI ((sc 4) + (x % 30)))), (6, .int (nI ((sc 2) + (x % 30)))), (5, .int (nI ((sc 3) + (x % 30)))), (4, .int (nI 0)), (0, .ref (az 0)), (1, .ref (az 9)), (2, .ref (az 10)), (3, .int (nI x))]) S.1 S.2.1 dL_isRefused_160 hl (by decide) rfl (fun ls hl => ?_)
  refine lv_aload_n (pc := 162) S.1 S.2.1 dL_isRefused_162 rfl (lv_at hl 8 rfl) ?_
  refine lv_iconst (pc := 163) (v := nI 0) S.1 S.2.1 dL_isRefused_163 (by decide) ?_
  refine lv_iload (pc := 164) S.1 S.2.1 dL_isRefused_164 (lv_at hl 7 rfl) ?_
  refine hv_if_eq (pc := 166) (tgt := 179) (a := 0) S.1 S.2.1 (by omega) dL_isRefused_166 (by decide) (fun c_10 => ?_) (fun c9 => absurd c9 (by omega))
  refine lv_bipush (pc := 179) (v := nI 123) S.1 S.2.1 dL_isRefused_179 (by decide) ?_
  refine lv_iload_n (pc := 181) S.1 S.2.1 dL_isRefused_181 rfl (lv_at hl 11 rfl) ?_
  refine lv_bipush (pc := 182) (v := nI 30) S.1 S.2.1 dL_isRefused_182 (by decide) ?_
  refine lv_irem (pc := 184) S.1 S.2.1 dL_isRefused_184 (by decide) ?_
  refine hv_ti (y := nI (x % 30)) (pk_rem (by omega) (by omega) (by omega)) ?_
  refine lv_iadd (pc := 185) S.1 S.2.1 dL_isRefused_185 ?_
  refine hv_ti (y := nI (123 + (x % 30))) (nI_add _ _) ?_
  refine lv_iconst (pc := 186) (v := nI 0) S.1 S.2.1 dL_isRefused_186 (by decide) ?_
  refine lv_iconst (pc := 187) (v := nI 0) S.1 S.2.1 dL_isRefused_187 (by decide) ?_
  refine hv_call (pc := 188) (vx_runSW (As := [.ref (az 0), .int (nI 0), .int (nI (123 + (x % 30))), .int (nI 0), .int (nI 0)]) (rest := []) S (ax_letter_1 l hfl D cA ga φ H.size az tn tk tm tg sc ar w ez o o (nI (123 + (x % 30))) (nI 0) (nI 0) hY hI hT h200 (letterX_1 (highL _ hz30))) (vx_cwSW 5 S.2.2.2.2 (gSW tw_261 tw_262 tw_0 tw_263) rfl rfl rfl (by decide +kernel) ⟨Nat.le_of_ble_eq_true rfl, Nat.le_of_ble_eq_true rfl⟩) (pre0_S hH hK hX hS hA) rfl rfl hl.1 rfl (lv_room (Nat.le_of_ble_eq_true rfl)) dL_isRefused_188 ⟨Nat.le_trans (show _ ≤ 2600 by omega) (Nat.le_of_ble_eq_true rfl), Nat.le_trans (show _ ≤ 17000 by omega) (Nat.le_of_ble_eq_true rfl)⟩) hS (af_le hH hS hA) (fun v_11 φ_12 H locs hw_v_11 hH hS => ?_)
  obtain ⟨rfl, hqv_11⟩ := hw_v_11
  rw [hqv_11] at hH
  refine lv_ldc (pc := 191) (v := (-16820000 : Int32)) S.1 S.2.1 S.2.2.2.1 (S.2.2.2.2 _ tw_886) dL_isRefused_191 ?_
  refine lv_icmp_ne (pc := 193) (tgt := 643) S.1 S.2.1 dL_isRefused_193 (by decide) (fun c9 => absurd c9 (fun h9 => h9 rfl)) (fun c_13 => ?_)
  refine lv_aload_n (pc := 196) S.1 S.2.1 dL_isRefused_196 rfl (lv_at hl 8 rfl) ?_
  refine lv_iconst (pc := 197) (v := nI 1) S.1 S.2.1 dL_isRefused_197 (by decide) ?_
  refine lv_iload (pc := 198) S.1 S.2.1 dL_isRefused_198 (lv_at hl 7 rfl) ?_
  refine hv_if_eq (pc := 200) (tgt := 212) (a := 0) S.1 S.2.1 (by omega) dL_isRefused_200 (by decide) (fun c_14 => ?_) (fun c9 => absurd c9 (by omega))
  refine lv_sipush (pc := 212) (v := nI 5001) S.1 S.2.1 dL_isRefused_212 (by decide) ?_
  refine lv_iconst (pc := 215) (v := nI 0) S.1 S.2.1 dL_isRefused_215 (by decide) ?_
  refine lv_iconst (pc := 216) (v := nI 0) S.1 S.2.1 dL_isRefused_216 (by decide) ?_
  refine hv_call (pc := 217) (vx_runSW (As := [.ref (az 0), .int (nI 1), .int (nI 5001), .int (nI 0), .int (nI 0)]) (rest := []) S (ax_lot_1 l hfl D cA ga φ H.size az tn tk tm tg sc ar w ez o o (nI 5001) (nI 0) (nI 0) hY hI hT h200 (lotX_1 ((by decide)))) (vx_cwSW 5 S.2.2.2.2 (gSW tw_261 tw_262 tw_0 tw_263) rfl rfl rfl (by decide +kernel) ⟨Nat.le_of_ble_eq_true rfl, Nat.le_of_ble_eq_true rfl⟩) (pre0_S hH hK hX hS hA) rfl rfl hl.1 rfl (lv_room (Nat.le_of_ble_eq_true rfl)) dL_isRefused_217 ⟨Nat.le_trans (show _ ≤ 2600 by omega) (Nat.le_of_ble_eq_true rfl), Nat.le_trans (show _ ≤ 17000 by omega) (Nat.le_of_ble_eq_true rfl)⟩) hS (af_le hH hS hA) (fun v_15 φ_16 H locs hw_v_15 hH hS => ?_)
  obtain ⟨rfl, hqv_15⟩ := hw_v_15
  rw [hqv_15] at hH
  refine lv_ldc (pc := 220) (v := (-16820000 : Int32)) S.1 S.2.1 S.2.2.2.1 (S.2.2.2.2 _ tw_886) dL_isRefused_220 ?_
  refine lv_icmp_ne (pc := 222) (tgt := 643) S.1 S.2.1 dL_isRefused_222 (by decide) (fun c9 => absurd c9 (fun h9 => h9 rfl)) (fun c_17 => ?_)
  refine lv_aload_n (pc := 225) S.1 S.2.1 dL_isRefused_225 rfl (lv_at hl 8 rfl) ?_
  refine lv_iconst (pc := 226) (v := nI 2) S.1 S.2.1 dL_isRefused_226 (by decide) ?_
  refine lv_iload (pc := 227) S.1 S.2.1 dL_isRefused_227 (lv_at hl 5 rfl) ?_
  refine lv_iconst (pc := 229) (v := nI 0) S.1 S.2.1 dL_isRefused_229 (by decide) ?_
  refine lv_bipush (pc := 230) (v := nI 9) S.1 S.2.1 dL_isRefused_230 (by decide) ?_
  refine hv_call (pc := 232) (vx_runSW (As := [.ref (az 0), .int (nI 2), .int (nI ((sc 2) + (x % 30))), .int (nI 0), .int (nI 9)]) (rest := []) S (ax_cone_3 l hfl D cA ga φ H.size az tn tk tm tg sc ar w ez o o (nI ((sc 2) + (x % 30))) (nI 0) (nI 9) hY hI hT h200 (coneX_3 hlot)) (vx_cwSW 5 S.2.2.2.2 (gSW tw_261 tw_262 tw_0 tw_263) rfl rfl rfl (by decide +kernel) ⟨Nat.le_of_ble_eq_true rfl, Nat.le_of_ble_eq_true rfl⟩) (pre0_S hH hK hX hS hA) rfl rfl hl.1 rfl (lv_room (Nat.le_of_ble_eq_true rfl)) dL_isRefused_232 ⟨Nat.le_trans (show _ ≤ 2600 by omega) (Nat.le_of_ble_eq_true rfl), Nat.le_trans (show _ ≤ 17000 by omega) (Nat.le_of_ble_eq_true rfl)⟩) hS (af_le hH hS hA) (fun v_18 φ_19 H locs hw_v_18 hH hS => ?_)
  obtain ⟨rfl, hqv_18⟩ := hw_v_18
  rw [hqv_18] at hH
  refine lv_ldc (pc := 235) (v := (-16810000 : Int32)) S.1 S.2.1 S.2.2.2.1 (S.2.2.2.2 _ tw_885) dL_isRefused_235 ?_
  refine lv_icmp_ne (pc := 237) (tgt := 643) S.1 S.2.1 dL_isRefused_237 (by decide) (fun c9 => absurd c9 (fun h9 => h9 rfl)) (fun c_20 => ?_)
  refine lv_aload_n (pc := 240) S.1 S.2.1 dL_isRefused_240 rfl (lv_at hl 8 rfl) ?_
  refine lv_iconst (pc := 241) (v := nI 4) S.1 S.2.1 dL_isRefused_241 (by decide) ?_
  refine lv_iload (pc := 242) S.1 S.2.1 dL_isRefused_242 (lv_at hl 6 rfl) ?_
  refine lv_iconst (pc := 244) (v := nI 0) S.1 S.2.1 dL_isRefused_244 (by decide) ?_
  refine lv_iconst (pc := 245) (v := nI 0) S.1 S.2.1 dL_isRefused_245 (by decide) ?_
  refine hv_call (pc := 246) (vx_runSW (As := [.ref (az 0), .int (nI 4), .int (nI ((sc 3) + (x % 30))), .int (nI 0), .int (nI 0)]) (rest := []) S (ax_cycle_3 l hfl D cA ga φ H.size az tn tk tm tg sc ar w ez o o (nI ((sc 3) + (x % 30))) (nI 0) (nI 0) hY hI hT h200 (cycleX_3 hcone)) (vx_cwSW 5 S.2.2.2.2 (gSW tw_261 tw_262 tw_0 tw_263) rfl rfl rfl (by decide +kernel) ⟨Nat.le_of_ble_eq_true rfl, Nat.le_of_ble_eq_true rfl⟩) (pre0_S hH hK hX hS hA) rfl rfl hl.1 rfl (lv_room (Nat.le_of_ble_eq_true rfl)) dL_isRefused_246 ⟨Nat.le_trans (show _ ≤ 2600 by omega) (Nat.le_of_ble_eq_true rfl), Nat.le_trans (show _ ≤ 17000 by omega) (Nat.le_of_ble_eq_true rfl)⟩) hS (af_le hH hS hA) (fun v_21 φ_22 H locs hw_v_21 hH hS => ?_)
  obtain ⟨rfl, hqv_21⟩ := hw_v_21
  rw [hqv_21] at hH
  refine lv_ldc (pc := 249) (v := (-16810000 : Int32)) S.1 S.2.1 S.2.2.2.1 (S.2.2.2.2 _ tw_885) dL_isRefused_249 ?_
  refine lv_icmp_ne (pc := 251) (tgt := 643) S.1 S.2.1 dL_isRefused_251 (by decide) (fun c9 => absurd c9 (fun h9 => h9 rfl)) (fun c_23 => ?_)
  refine lv_aload_n (pc := 254) S.1 S.2.1 dL_isRefused_254 rfl (lv_at hl 8 rfl) ?_
  refine lv_iconst (pc := 255) (v := nI 5) S.1 S.2.1 dL_isRefused_255 (by decide) ?_
  refine lv_iload (pc := 256) S.1 S.2.1 dL_isRefused_256 (lv_at hl 7 rfl) ?_
  refine hv_if_eq (pc := 258) (tgt := 272) (a := 0) S.1 S.2.1 (by omega) dL_isRefused_258 (by decide) (fun c_24 => ?_) (fun c9 => absurd c9 (by omega))
  refine lv_sipush (pc := 272) (v := nI 701) S.1 S.2.1 dL_isRefused_272 (by decide) ?_
  refine lv_iconst (pc := 275) (v := nI 3) S.1 S.2.1 dL_isRefused_275 (by decide) ?_
  refine lv_iconst (pc := 276) (v := nI 0) S.1 S.2.1 dL_isRefused_276 (by decide) ?_
  refine hv_call (pc := 277) (vx_runSW (As := [.ref (az 0), .int (nI 5), .int (nI 701), .int (nI 3), .int (nI 0)]) (rest := []) S (ax_block_1 l hfl D cA ga φ H.size az tn tk tm tg sc ar w ez o o (nI 701) (nI 3) (nI 0) hY hI hT h200 (blockX_1 ((by decide)))) (vx_cwSW 5 S.2.2.2.2 (gSW tw_261 tw_262 tw_0 tw_263) rfl rfl rfl (by decide +kernel) ⟨Nat.le_of_ble_eq_true rfl, Nat.le_of_ble_eq_true rfl⟩) (pre0_S hH hK hX hS hA) rfl rfl hl.1 rfl (lv_room (Nat.le_of_ble_eq_true rfl)) dL_isRefused_277 ⟨Nat.le_trans (show _ ≤ 2600 by omega) (Nat.le_of_ble_eq_true rfl), Nat.le_trans (show _ ≤ 17000 by omega) (Nat.le_of_ble_eq_true rfl)⟩) hS (af_le hH hS hA) (fun v_25 φ_26 H locs hw_v_25 hH hS => ?_)
  obtain ⟨rfl, hqv_25⟩ := hw_v_25
  rw [hqv_25] at hH
  refine lv_ldc (pc := 280) (v := (-16820000 : Int32)) S.1 S.2.1 S.2.2.2.1 (S.2.2.2.2 _ tw_886) dL_isRefused_280 ?_
  refine lv_icmp_ne (pc := 282) (tgt := 643) S.1 S.2.1 dL_isRefused_282 (by decide) (fun c9 => absurd c9 (fun h9 => h9 rfl)) (fun c_27 => ?_)
  refine lv_aload_n (pc := 285) S.1 S.2.1 dL_isRefused_285 rfl (lv_at hl 8 rfl) ?_
  refine lv_iconst (pc := 286) (v := nI 5) S.1 S.2.1 dL_isRefused_286 (by decide) ?_
  refine lv_sipush (pc := 287) (v := nI 500) S.1 S.2.1 dL_isRefused_287 (by decide) ?_
  refine lv_iload (pc := 290) S.1 S.2.1 dL_isRefused_290 (lv_at hl 7 rfl) ?_
  refine hv_if_eq (pc := 292) (tgt := 304) (a := 0) S.1 S.2.1 (by omega) dL_isRefused_292 (by decide) (fun c_28 => ?_) (fun c9 => absurd c9 (by omega))
  refine lv_bipush (pc := 304) (v := nI 7) S.1 S.2.1 dL_isRefused_304 (by decide) ?_
  refine lv_iconst (pc := 306) (v := nI 0) S.1 S.2.1 dL_isRefused_306 (by decide) ?_
  refine hv_call (pc := 307) (vx_runSW (As := [.ref (az 0), .int (nI 5), .int (nI 500), .int (nI 7), .int (nI 0)]) (rest := []) S (ax_block_1 l hfl D cA ga φ H.size az tn tk tm tg sc ar w ez o o (nI 500) (nI 7) (nI 0) hY hI hT h200 (blockX_1d ((by decide)))) (vx_cwSW 5 S.2.2.2.2 (gSW tw_261 tw_262 tw_0 tw_263) rfl rfl rfl (by decide +kernel) ⟨Nat.le_of_ble_eq_true rfl, Nat.le_of_ble_eq_true rfl⟩) (pre0_S hH hK hX hS hA) rfl rfl hl.1 rfl (lv_room (Nat.le_of_ble_eq_true rfl)) dL_isRefused_307 ⟨Nat.le_trans (show _ ≤ 2600 by omega) (Nat.le_of_ble_eq_true rfl), Nat.le_trans (show _ ≤ 17000 by omega) (Nat.le_of_ble_eq_true rfl)⟩) hS (af_le hH hS hA) (fun v_29 φ_30 H locs hw_v_29 hH hS => ?_)
  obtain ⟨rfl, hqv_29⟩ := hw_v_29
  rw [hqv_29] at hH
  refine lv_ldc (pc := 310) (v := (-16820000 : Int32)) S.1 S.2.1 S.2.2.2.1 (S.2.2.2.2 _ tw_886) dL_isRefused_310 ?_
  refine lv_icmp_ne (pc := 312) (tgt := 643) S.1 S.2.1 dL_isRefused_312 (by decide) (fun c9 => absurd c9 (fun h9 => h9 rfl)) (fun c_31 => ?_)
  refine lv_aload_n (pc := 315) S.1 S.2.1 dL_isRefused_315 rfl (lv_at hl 8 rfl) ?_
  refine lv_bipush (pc := 316) (v := nI 6) S.1 S.2.1 dL_isRefused_316 (by decide) ?_
  refine lv_iload (pc := 318) S.1 S.2.1 dL_isRefused_318 (lv_at hl 6 rfl) ?_
  refine lv_iconst (pc := 320) (v := nI 0) S.1 S.2.1 dL_isRefused_320 (by decide) ?_
  refine lv_iconst (pc := 321) (v := nI 0) S.1 S.2.1 dL_isRefused_321 (by decide) ?_
  refine hv_call (pc := 322) (vx_runSW (As := [.ref (az 0), .int (nI 6), .int (nI ((sc 3) + (x % 30))), .int (nI 0), .int (nI 0)]) (rest := []) S (ax_draw_3 l hfl D cA ga φ H.size az tn tk tm tg sc ar w ez o o (nI ((sc 3) + (x % 30))) (nI 0) (nI 0) hY hI hT h200 (drawX_3 hcone)) (vx_cwSW 5 S.2.2.2.2 (gSW tw_261 tw_262 tw_0 tw_263) rfl rfl rfl (by decide +kernel) ⟨Nat.le_of_ble_eq_true rfl, Nat.le_of_ble_eq_true rfl⟩) (pre0_S hH hK hX hS hA) rfl rfl hl.1 rfl (lv_room (Nat.le_of_ble_eq_true rfl)) dL_isRefused_322 ⟨Nat.le_trans (show _ ≤ 2600 by omega) (Nat.le_of_ble_eq_true rfl), Nat.le_trans (show _ ≤ 17000 by omega) (Nat.le_of_ble_eq_true rfl)⟩) hS (af_le hH hS hA) (fun v_32 φ_33 H locs hw_v_32 hH hS => ?_)
  obtain ⟨rfl, hqv_32⟩ := hw_v_32
  rw [hqv_32] at hH
  refine lv_ldc (pc := 325) (v := (-16810000 : Int32)) S.1 S.2.1 S.2.2.2.1 (S.2.2.2.2 _ tw_885) dL_isRefused_325 ?_
  refine lv_icmp_ne (pc := 327) (tgt := 643) S.1 S.2.1 dL_isRefused_327 (by decide) (fun c9 => absurd c9 (fun h9 => h9 rfl)) (fun c_34 => ?_)
  refine lv_aload_n (pc := 330) S.1 S.2.1 dL_isRefused_330 rfl (lv_at hl 8 rfl) ?_
  refine lv_bipush (pc := 331) (v := nI 7) S.1 S.2.1 dL_isRefused_331 (by decide) ?_
  refine lv_iload (pc := 333) S.1 S.2.1 dL_isRefused_333 (lv_at hl 6 rfl) ?_
  refine lv_iconst (pc := 335) (v := nI 0) S.1 S.2.1 dL_isRefused_335 (by decide) ?_
  refine lv_iconst (pc := 336) (v := nI 0) S.1 S.2.1 dL_isRefused_336 (by decide) ?_
  refine hv_call (pc := 337) (vx_runSW (As := [.ref (az 0), .int (nI 7), .int (nI ((sc 3) + (x % 30))), .int (nI 0), .int (nI 0)]) (rest := []) S (ax_trim_3 l hfl D cA ga φ H.size az tn tk tm tg sc ar w ez o o (nI ((sc 3) + (x % 30))) (nI 0) (nI 0) hY hI hT h200 (trimX_3 hcone)) (vx_cwSW 5 S.2.2.2.2 (gSW tw_261 tw_262 tw_0 tw_263) rfl rfl rfl (by decide +kernel) ⟨Nat.le_of_ble_eq_true rfl, Nat.le_of_ble_eq_true rfl⟩) (pre0_S hH hK hX hS hA) rfl rfl hl.1 rfl (lv_room (Nat.le_of_ble_eq_true rfl)) dL_isRefused_337 ⟨Nat.le_trans (show _ ≤ 2600 by omega) (Nat.le_of_ble_eq_true rfl), Nat.le_trans (show _ ≤ 17000 by omega) (Nat.le_of_ble_eq_true rfl)⟩) hS (af_le hH hS hA) (fun v_35 φ_36 H locs hw_v_35 hH hS => ?_)
  obtain ⟨rfl, hqv_35⟩ := hw_v_35
  rw [hqv_35] at hH
  refine lv_ldc (pc := 340) (v := (-16810000 : Int32)) S.1 S.2.1 S.2.2.2.1 (S.2.2.2.2 _ tw_885) dL_isRefused_340 ?_
  refine lv_icmp_ne (pc := 342) (tgt := 643) S.1 S.2.1 dL_isRefused_342 (by decide) (fun c9 => absurd c9 (fun h9 => h9 rfl)) (fun c_37 => ?_)
  refine lv_aload_n (pc := 345) S.1 S.2.1 dL_isRefused_345 rfl (lv_at hl 8 rfl) ?_
  refine lv_bipush (pc := 346) (v := nI 8) S.1 S.2.1 dL_isRefused_346 (by decide) ?_
  refine lv_iload (pc := 348) S.1 S.2.1 dL_isRefused_348 (lv_at hl 7 rfl) ?_
  refine hv_if_eq (pc := 350) (tgt := 362) (a := 0) S.1 S.2.1 (by omega) dL_isRefused_350 (by decide) (fun c_38 => ?_) (fun c9 => absurd c9 (by omega))
  refine lv_bipush (pc := 362) (v := nI 31) S.1 S.2.1 dL_isRefused_362 (by decide) ?_
  refine lv_iconst (pc := 364) (v := nI 0) S.1 S.2.1 dL_isRefused_364 (by decide) ?_
  refine lv_iconst (pc := 365) (v := nI 0) S.1 S.2.1 dL_isRefused_365 (by decide) ?_
  refine hv_call (pc := 366) (vx_runSW (As := [.ref (az 0), .int (nI 8), .int (nI 31), .int (nI 0), .int (nI 0)]) (rest := []) S (ax_pass_1 l hfl D cA ga φ H.size az tn tk tm tg sc ar w ez o o (nI 31) (nI 0) (nI 0) hY hI hT h200 (passX_1 ((by decide)))) (vx_cwSW 5 S.2.2.2.2 (gSW tw_261 tw_262 tw_0 tw_263) rfl rfl rfl (by decide +kernel) ⟨Nat.le_of_ble_eq_true rfl, Nat.le_of_ble_eq_true rfl⟩) (pre0_S hH hK hX hS hA) rfl rfl hl.1 rfl (lv_room (Nat.le_of_ble_eq_true rfl)) dL_isRefused_366 ⟨Nat.le_trans (show _ ≤ 2600 by omega) (Nat.le_of_ble_eq_true rfl), Nat.le_trans (show _ ≤ 17000 by omega) (Nat.le_of_ble_eq_true rfl)⟩) hS (af_le hH hS hA) (fun v_39 φ_40 H locs hw_v_39 hH hS => ?_)
  obtain ⟨rfl, hqv_39⟩ := hw_v_39
  rw [hqv_39] at hH
  refine lv_ldc (pc := 369) (v := (-16820000 : Int32)) S.1 S.2.1 S.2.2.2.1 (S.2.2.2.2 _ tw_886) dL_isRefused_369 ?_
  refine lv_icmp_ne (pc := 371) (tgt := 643) S.1 S.2.1 dL_isRefused_371 (by decide) (fun c9 => absurd c9 (fun h9 => h9 rfl)) (fun c_41 => ?_)
  refine lv_aload_n (pc := 374) S.1 S.2.1 dL_isRefused_374 rfl (lv_at hl 8 rfl) ?_
  refine lv_bipush (pc := 375) (v := nI 9) S.1 S.2.1 dL_isRefused_375 (by decide) ?_
  refine lv_iload (pc := 377) S.1 S.2.1 dL_isRefused_377 (lv_at hl 6 rfl) ?_
  refine lv_iconst (pc := 379) (v := nI 0) S.1 S.2.1 dL_isRefused_379 (by decide) ?_
  refine lv_bipush (pc := 380) (v := nI 9) S.1 S.2.1 dL_isRefused_380 (by decide) ?_
  refine hv_call (pc := 382) (vx_runSW (As := [.ref (az 0), .int (nI 9), .int (nI ((sc 3) + (x % 30))), .int (nI 0), .int (nI 9)]) (rest := []) S (ax_about_3 l hfl D cA ga φ H.size az tn tk tm tg sc ar w ez o o (nI ((sc 3) + (x % 30))) (nI 0) (nI 9) hY hI hT h200 (aboutX_3 hcone)) (vx_cwSW 5 S.2.2.2.2 (gSW tw_261 tw_262 tw_0 tw_263) rfl rfl rfl (by decide +kernel) ⟨Nat.le_of_ble_eq_true rfl, Nat.le_of_ble_eq_true rfl⟩) (pre0_S hH hK hX hS hA) rfl rfl hl.1 rfl (lv_room (Nat.le_of_ble_eq_true rfl)) dL_isRefused_382 ⟨Nat.le_trans (show _ ≤ 2600 by omega) (Nat.le_of_ble_eq_true rfl), Nat.le_trans (show _ ≤ 17000 by omega) (Nat.le_of_ble_eq_true rfl)⟩) hS (af_le hH hS hA) (fun v_42 φ_43 H locs hw_v_42 hH hS => ?_)
  obtain ⟨rfl, hqv_42⟩ := hw_v_42
  rw [hqv_42] at hH
  refine lv_ldc (pc := 385) (v := (-16810000 : Int32)) S.1 S.2.1 S.2.2.2.1 (S.2.2.2.2 _ tw_885) dL_isRefused_385 ?_
  refine lv_icmp_ne (pc := 387) (tgt := 643) S.1 S.2.1 dL_isRefused_387 (by decide) (fun c9 => absurd c9 (fun h9 => h9 rfl)) (fun c_44 => ?_)
  refine lv_aload_n (pc := 390) S.1 S.2.1 dL_isRefused_390 rfl (lv_at hl 8 rfl) ?_
  refine lv_bipush (pc := 391) (v := nI 10) S.1 S.2.1 dL_isRefused_391 (by decide) ?_
  refine lv_iload (pc := 393) S.1 S.2.1 dL_isRefused_393 (lv_at hl 6 rfl) ?_
  refine lv_iconst (pc := 395) (v := nI 0) S.1 S.2.1 dL_isRefused_395 (by decide) ?_
  refine lv_iconst (pc := 396) (v := nI 0) S.1 S.2.1 dL_isRefused_396 (by decide) ?_
  refine hv_call (pc := 397) (vx_runSW (As := [.ref (az 0), .int (nI 10), .int (nI ((sc 3) + (x % 30))), .int (nI 0), .int (nI 0)]) (rest := []) S (ax_widthAnew_3 l hfl D cA ga φ H.size az tn tk tm tg sc ar w ez o o (nI ((sc 3) + (x % 30))) (nI 0) (nI 0) hY hI hT h200 (anewX_3 hcone)) (vx_cwSW 5 S.2.2.2.2 (gSW tw_261 tw_262 tw_0 tw_263) rfl rfl rfl (by decide +kernel) ⟨Nat.le_of_ble_eq_true rfl, Nat.le_of_ble_eq_true rfl⟩) (pre0_S hH hK hX hS hA) rfl rfl hl.1 rfl (lv_room (Nat.le_of_ble_eq_true rfl)) dL_isRefused_397 ⟨Nat.le_trans (show _ ≤ 2600 by omega) (Nat.le_of_ble_eq_true rfl), Nat.le_trans (show _ ≤ 17000 by omega) (Nat.le_of_ble_eq_true rfl)⟩) hS (af_le hH hS hA) (fun v_45 φ_46 H locs hw_v_45 hH hS => ?_)
  obtain ⟨rfl, hqv_45⟩ := hw_v_45
  rw [hqv_45] at hH
  refine lv_ldc (pc := 400) (v := (-16810000 : Int32)) S.1 S.2.1 S.2.2.2.1 (S.2.2.2.2 _ tw_885) dL_isRefused_400 ?_
  refine lv_icmp_ne (pc := 402) (tgt := 643) S.1 S.2.1 dL_isRefused_402 (by decide) (fun c9 => absurd c9 (fun h9 => h9 rfl)) (fun c_47 => ?_)
  refine lv_aload_n (pc := 405) S.1 S.2.1 dL_isRefused_405 rfl (lv_at hl 8 rfl) ?_
  refine lv_bipush (pc := 406) (v := nI 11) S.1 S.2.1 dL_isRefused_406 (by decide) ?_
  refine lv_iload (pc := 408) S.1 S.2.1 dL_isRefused_408 (lv_at hl 6 rfl) ?_
  refine lv_iconst (pc := 410) (v := nI 0) S.1 S.2.1 dL_isRefused_410 (by decide) ?_
  refine lv_iconst (pc := 411) (v := nI 0) S.1 S.2.1 dL_isRefused_411 (by decide) ?_
  refine hv_call (pc := 412) (vx_runSW (As := [.ref (az 0), .int (nI 11), .int (nI ((sc 3) + (x % 30))), .int (nI 0), .int (nI 0)]) (rest := []) S (ax_brim_3 l hfl D cA ga φ H.size az tn tk tm tg sc ar w ez o o (nI ((sc 3) + (x % 30))) (nI 0) (nI 0) hY hI hT h200 (brimX_3 hcone)) (vx_cwSW 5 S.2.2.2.2 (gSW tw_261 tw_262 tw_0 tw_263) rfl rfl rfl (by decide +kernel) ⟨Nat.le_of_ble_eq_true rfl, Nat.le_of_ble_eq_true rfl⟩) (pre0_S hH hK hX hS hA) rfl rfl hl.1 rfl (lv_room (Nat.le_of_ble_eq_true rfl)) dL_isRefused_412 ⟨Nat.le_trans (show _ ≤ 2600 by omega) (Nat.le_of_ble_eq_true rfl), Nat.le_trans (show _ ≤ 17000 by omega) (Nat.le_of_ble_eq_true rfl)⟩) hS (af_le hH hS hA) (fun v_48 φ_49 H locs hw_v_48 hH hS => ?_)
  obtain ⟨rfl, hqv_48⟩ := hw_v_48
  rw [hqv_48] at hH
  refine lv_ldc (pc := 415) (v := (-16810000 : Int32)) S.1 S.2.1 S.2.2.2.1 (S.2.2.2.2 _ tw_885) dL_isRefused_415 ?_
  refine lv_icmp_ne (pc := 417) (tgt := 643) S.1 S.2.1 dL_isRefused_417 (by decide) (fun c9 => absurd c9 (fun h9 => h9 rfl)) (fun c_50 => ?_)
  refine lv_aload_n (pc := 420) S.1 S.2.1 dL_isRefused_420 rfl (lv_at hl 8 rfl) ?_
  refine lv_bipush (pc := 421) (v := nI 12) S.1 S.2.1 dL_isRefused_421 (by decide) ?_
  refine lv_iload (pc := 423) S.1 S.2.1 dL_isRefused_423 (lv_at hl 1 rfl) ?_
  refine lv_iconst (pc := 425) (v := nI 0) S.1 S.2.1 dL_isRefused_425 (by decide) ?_
  refine lv_iconst (pc := 426) (v := nI 0) S.1 S.2.1 dL_isRefused_426 (by decide) ?_
  refine hv_call (pc := 427) (vx_runSW (As := [.ref (az 0), .int (nI 12), .int (nI (101 + (x % 30))), .int (nI 0), .int (nI 0)]) (rest := []) S (ax_count_1 l hfl D cA ga φ H.size az tn tk tm tg sc ar w ez o o (nI (101 + (x % 30))) (nI 0) (nI 0) hY hI hT h200 (cntX_1 hhun)) (vx_cwSW 5 S.2.2.2.2 (gSW tw_261 tw_262 tw_0 tw_263) rfl rfl rfl (by decide +kernel) ⟨Nat.le_of_ble_eq_true rfl, Nat.le_of_ble_eq_true rfl⟩) (pre0_S hH hK hX hS hA) rfl rfl hl.1 rfl (lv_room (Nat.le_of_ble_eq_true rfl)) dL_isRefused_427 ⟨Nat.le_trans (show _ ≤ 2600 by omega) (Nat.le_of_ble_eq_true rfl), Nat.le_trans (show _ ≤ 17000 by omega) (Nat.le_of_ble_eq_true rfl)⟩) hS (af_le hH hS hA) (fun v_51 φ_52 H locs hw_v_51 hH hS => ?_)
  obtain ⟨rfl, hqv_51⟩ := hw_v_51
  rw [hqv_51] at hH
  refine lv_ldc (pc := 430) (v := (-16820000 : Int32)) S.1 S.2.1 S.2.2.2.1 (S.2.2.2.2 _ tw_886) dL_isRefused_430 ?_
  refine lv_icmp_ne (pc := 432) (tgt := 643) S.1 S.2.1 dL_isRefused_432 (by decide) (fun c9 => absurd c9 (fun h9 => h9 rfl)) (fun c_53 => ?_)
  refine lv_aload_n (pc := 435) S.1 S.2.1 dL_isRefused_435 rfl (lv_at hl 8 rfl) ?_
  refine lv_bipush (pc := 436) (v := nI 13) S.1 S.2.1 dL_isRefused_436 (by decide) ?_
  refine lv_iload (pc := 438) S.1 S.2.1 dL_isRefused_438 (lv_at hl 1 rfl) ?_
  refine lv_iconst (pc := 440) (v := nI 0) S.1 S.2.1 dL_isRefused_440 (by decide) ?_
  refine lv_iconst (pc := 441) (v := nI 0) S.1 S.2.1 dL_isRefused_441 (by decide) ?_
  refine hv_call (pc := 442) (vx_runSW (As := [.ref (az 0), .int (nI 13), .int (nI (101 + (x % 30))), .int (nI 0), .int (nI 0)]) (rest := []) S (ax_countAnew_1 l hfl D cA ga φ H.size az tn tk tm tg sc ar w ez o o (nI (101 + (x % 30))) (nI 0) (nI 0) hY hI hT h200 (cntX_1 hhun)) (vx_cwSW 5 S.2.2.2.2 (gSW tw_261 tw_262 tw_0 tw_263) rfl rfl rfl (by decide +kernel) ⟨Nat.le_of_ble_eq_true rfl, Nat.le_of_ble_eq_true rfl⟩) (pre0_S hH hK hX hS hA) rfl rfl hl.1 rfl (lv_room (Nat.le_of_ble_eq_true rfl)) dL_isRefused_442 ⟨Nat.le_trans (show _ ≤ 2600 by omega) (Nat.le_of_ble_eq_true rfl), Nat.le_trans (show _ ≤ 17000 by omega) (Nat.le_of_ble_eq_true rfl)⟩) hS (af_le hH hS hA) (fun v_54 φ_55 H locs hw_v_54 hH hS => ?_)
  obtain ⟨rfl, hqv_54⟩ := hw_v_54
  rw [hqv_54] at hH
  refine lv_ldc (pc := 445) (v := (-16820000 : Int32)) S.1 S.2.1 S.2.2.2.1 (S.2.2.2.2 _ tw_886) dL_isRefused_445 ?_
  refine lv_icmp_ne (pc := 447) (tgt := 643) S.1 S.2.1 dL_isRefused_447 (by decide) (fun c9 => absurd c9 (fun h9 => h9 rfl)) (fun c_56 => ?_)
  refine lv_aload_n (pc := 450) S.1 S.2.1 dL_isRefused_450 rfl (lv_at hl 8 rfl) ?_
  refine lv_bipush (pc := 451) (v := nI 14) S.1 S.2.1 dL_isRefused_451 (by decide) ?_
  refine lv_iload (pc := 453) S.1 S.2.1 dL_isRefused_453 (lv_at hl 7 rfl) ?_
  refine hv_if_eq (pc := 455) (tgt := 467) (a := 0) S.1 S.2.1 (by omega) dL_isRefused_455 (by decide) (fun c_57 => ?_) (fun c9 => absurd c9 (by omega))
  refine lv_sipush (pc := 467) (v := nI 2001) S.1 S.2.1 dL_isRefused_467 (by decide) ?_
  refine lv_iconst (pc := 470) (v := nI 0) S.1 S.2.1 dL_isRefused_470 (by decide) ?_
  refine lv_iconst (pc := 471) (v := nI 0) S.1 S.2.1 dL_isRefused_471 (by decide) ?_
  refine hv_call (pc := 472) (vx_runSW (As := [.ref (az 0), .int (nI 14), .int (nI 2001), .int (nI 0), .int (nI 0)]) (rest := []) S (ax_rows_1 l hfl D cA ga φ H.size az tn tk tm tg sc ar w ez o o (nI 2001) (nI 0) (nI 0) hY hI hT h200 (rowsX_1 ((by decide)))) (vx_cwSW 5 S.2.2.2.2 (gSW tw_261 tw_262 tw_0 tw_263) rfl rfl rfl (by decide +kernel) ⟨Nat.le_of_ble_eq_true rfl, Nat.le_of_ble_eq_true rfl⟩) (pre0_S hH hK hX hS hA) rfl rfl hl.1 rfl (lv_room (Nat.le_of_ble_eq_true rfl)) dL_isRefused_472 ⟨Nat.le_trans (show _ ≤ 2600 by omega) (Nat.le_of_ble_eq_true rfl), Nat.le_trans (show _ ≤ 17000 by omega) (Nat.le_of_ble_eq_true rfl)⟩) hS (af_le hH hS hA) (fun v_58 φ_59 H locs hw_v_58 hH hS => ?_)
  obtain ⟨rfl, hqv_58⟩ := hw_v_58
  rw [hqv_58] at hH
  refine lv_ldc (pc := 475) (v := (-16820000 : Int32)) S.1 S.2.1 S.2.2.2.1 (S.2.2.2.2 _ tw_886) dL_isRefused_475 ?_
  refine lv_icmp_ne (pc := 477) (tgt := 643) S.1 S.2.1 dL_isRefused_477 (by decide) (fun c9 => absurd c9 (fun h9 => h9 rfl)) (fun c_60 => ?_)
  refine lv_aload_n (pc := 480) S.1 S.2.1 dL_isRefused_480 rfl (lv_at hl 8 rfl) ?_
  refine lv_bipush (pc := 481) (v := nI 15) S.1 S.2.1 dL_isRefused_481 (by decide) ?_
  refine lv_iload (pc := 483) S.1 S.2.1 dL_isRefused_483 (lv_at hl 7 rfl) ?_
  refine hv_if_eq (pc := 485) (tgt := 497) (a := 0) S.1 S.2.1 (by omega) dL_isRefused_485 (by decide) (fun c_61 => ?_) (fun c9 => absurd c9 (by omega))
  refine lv_bipush (pc := 497) (v := nI 8) S.1 S.2.1 dL_isRefused_497 (by decide) ?_
  refine lv_sipush (pc := 499) (v := nI 999) S.1 S.2.1 dL_isRefused_499 (by decide) ?_
  refine lv_iconst (pc := 502) (v := nI 0) S.1 S.2.1 dL_isRefused_502 (by decide) ?_
  refine hv_call (pc := 503) (vx_runSW (As := [.ref (az 0), .int (nI 15), .int (nI 8), .int (nI 999), .int (nI 0)]) (rest := []) S (ax_measure_3 l hfl D cA ga φ H.size az tn tk tm tg sc ar w ez o o (nI 8) (nI 999) (nI 0) hY hI hT h200 (measX_3 ((by decide)))) (vx_cwSW 5 S.2.2.2.2 (gSW tw_261 tw_262 tw_0 tw_263) rfl rfl rfl (by decide +kernel) ⟨Nat.le_of_ble_eq_true rfl, Nat.le_of_ble_eq_true rfl⟩) (pre0_S hH hK hX hS hA) rfl rfl hl.1 rfl (lv_room (Nat.le_of_ble_eq_true rfl)) dL_isRefused_503 ⟨Nat.le_trans (show _ ≤ 2600 by omega) (Nat.le_of_ble_eq_true rfl), Nat.le_trans (show _ ≤ 17000 by omega) (Nat.le_of_ble_eq_true rfl)⟩) hS (af_le hH hS hA) (fun v_62 φ_63 H locs hw_v_62 hH hS => ?_)
  obtain ⟨rfl, hqv_62⟩ := hw_v_62
  rw [hqv_62] at hH
  refine lv_ldc (pc := 506) (v := (-16810000 : Int32)) S.1 S.2.1 S.2.2.2.1 (S.2.2.2.2 _ tw_885) dL_isRefused_506 ?_
  refine lv_icmp_ne (pc := 508) (tgt := 643) S.1 S.2.1 dL_isRefused_508 (by decide) (fun c9 => absurd c9 (fun h9 => h9 rfl)) (fun c_64 => ?_)
  refine lv_aload_n (pc := 511) S.1 S.2.1 dL_isRefused_511 rfl (lv_at hl 8 rfl) ?_
  refine lv_bipush (pc := 512) (v := nI 15) S.1 S.2.1 dL_isRefused_512 (by decide) ?_
  refine lv_iload_n (pc := 514) S.1 S.2.1 dL_isRefused_514 rfl (lv_at hl 11 rfl) ?_
  refine lv_bipush (pc := 515) (v := nI 8) S.1 S.2.1 dL_isRefused_515 (by decide) ?_
  refine lv_irem (pc := 517) S.1 S.2.1 dL_isRefused_517 (by decide) ?_
  refine hv_ti (y := nI (x % 8)) (pk_rem (by omega) (by omega) (by omega)) ?_
  refine lv_iload (pc := 518) S.1 S.2.1 dL_isRefused_518 (lv_at hl 7 rfl) ?_
  refine hv_if_eq (pc := 520) (tgt := 527) (a := 0) S.1 S.2.1 (by omega) dL_isRefused_520 (by decide) (fun c_65 => ?_) (fun c9 => absurd c9 (by omega))
  refine lv_sipush (pc := 527) (v := nI 201) S.1 S.2.1 dL_isRefused_527 (by decide) ?_
  refine lv_iload_n (pc := 530) S.1 S.2.1 dL_isRefused_530 rfl (lv_at hl 11 rfl) ?_
  refine lv_bipush (pc := 531) (v := nI 30) S.1 S.2.1 dL_isRefused_531 (by decide) ?_
  refine lv_irem (pc := 533) S.1 S.2.1 dL_isRefused_533 (by decide) ?_
  refine hv_ti (y := nI (x % 30)) (pk_rem (by omega) (by omega) (by omega)) ?_
  refine lv_iadd (pc := 534) S.1 S.2.1 dL_isRefused_534 ?_
  refine hv_ti (y := nI (201 + (x % 30))) (nI_add _ _) ?_
  refine lv_iconst (pc := 535) (v := nI 0) S.1 S.2.1 dL_isRefused_535 (by decide) ?_
  refine hv_call (pc := 536) (vx_runSW (As := [.ref (az 0), .int (nI 15), .int (nI (x % 8)), .int (nI (201 + (x % 30))), .int (nI 0)]) (rest := []) S (ax_measure_1 l hfl D cA ga φ H.size az tn tk tm tg sc ar w ez o o (nI (x % 8)) (nI (201 + (x % 30))) (nI 0) hY hI hT h200 (measX_1 (Nat.mod_lt _ (by decide)) (highR (by omega) (by omega) (by decide)))) (vx_cwSW 5 S.2.2.2.2 (gSW tw_261 tw_262 tw_0 tw_263) rfl rfl rfl (by decide +kernel) ⟨Nat.le_of_ble_eq_true rfl, Nat.le_of_ble_eq_true rfl⟩) (pre0_S hH hK hX hS hA) rfl rfl hl.1 rfl (lv_room (Nat.le_of_ble_eq_true rfl)) dL_isRefused_536 ⟨Nat.le_trans (show _ ≤ 2600 by omega) (Nat.le_of_ble_eq_true rfl), Nat.le_trans (show _ ≤ 17000 by omega) (Nat.le_of_ble_eq_true rfl)⟩) hS (af_le hH hS hA) (fun v_66 φ_67 H locs hw_v_66 hH hS => ?_)
  obtain ⟨rfl, hqv_66⟩ := hw_v_66
  rw [hqv_66] at hH
  refine lv_ldc (pc := 539) (v := (-16820000 : Int32)) S.1 S.2.1 S.2.2.2.1 (S.2.2.2.2 _ tw_886) dL_isRefused_539 ?_
  refine lv_icmp_ne (pc := 541) (tgt := 643) S.1 S.2.1 dL_isRefused_541 (by decide) (fun c9 => absurd c9 (fun h9 => h9 rfl)) (fun c_68 => ?_)
  refine lv_aload_n (pc := 544) S.1 S.2.1 dL_isRefused_544 rfl (lv_at hl 8 rfl) ?_
  refine lv_bipush (pc := 545) (v := nI 16) S.1 S.2.1 dL_isRefused_545 (by decide) ?_
  refine lv_iload (pc := 547) S.1 S.2.1 dL_isRefused_547 (lv_at hl 6 rfl) ?_
  refine lv_iconst (pc := 549) (v := nI 0) S.1 S.2.1 dL_isRefused_549 (by decide) ?_
  refine lv_iconst (pc := 550) (v := nI 0) S.1 S.2.1 dL_isRefused_550 (by decide) ?_
  refine hv_call (pc := 551) (vx_runSW (As := [.ref (az 0), .int (nI 16), .int (nI ((sc 3) + (x % 30))), .int (nI 0), .int (nI 0)]) (rest := []) S (ax_fits_3 l hfl D cA ga φ H.size az tn tk tm tg sc ar w ez o o (nI ((sc 3) + (x % 30))) (nI 0) (nI 0) hY hI hT h200 (inX_3 hcone)) (vx_cwSW 5 S.2.2.2.2 (gSW tw_261 tw_262 tw_0 tw_263) rfl rfl rfl (by decide +kernel) ⟨Nat.le_of_ble_eq_true rfl, Nat.le_of_ble_eq_true rfl⟩) (pre0_S hH hK hX hS hA) rfl rfl hl.1 rfl (lv_room (Nat.le_of_ble_eq_true rfl)) dL_isRefused_551 ⟨Nat.le_trans (show _ ≤ 2600 by omega) (Nat.le_of_ble_eq_true rfl), Nat.le_trans (show _ ≤ 17000 by omega) (Nat.le_of_ble_eq_true rfl)⟩) hS (af_le hH hS hA) (fun v_69 φ_70 H locs hw_v_69 hH hS => ?_)
  obtain ⟨rfl, hqv_69⟩ := hw_v_69
  rw [hqv_69] at hH
  refine lv_ldc (pc := 554) (v := (-16810000 : Int32)) S.1 S.2.1 S.2.2.2.1 (S.2.2.2.2 _ tw_885) dL_isRefused_554 ?_
  refine lv_icmp_ne (pc := 556) (tgt := 643) S.1 S.2.1 dL_isRefused_556 (by decide) (fun c9 => absurd c9 (fun h9 => h9 rfl)) (fun c_71 => ?_)
  refine lv_aload_n (pc := 559) S.1 S.2.1 dL_isRefused_559 rfl (lv_at hl 8 rfl) ?_
  refine lv_bipush (pc := 560) (v := nI 17) S.1 S.2.1 dL_isRefused_560 (by decide) ?_
  refine lv_iload (pc := 562) S.1 S.2.1 dL_isRefused_562 (lv_at hl 7 rfl) ?_
  refine hv_if_eq (pc := 564) (tgt := 576) (a := 0) S.1 S.2.1 (by omega) dL_isRefused_564 (by decide) (fun c_72 => ?_) (fun c9 => absurd c9 (by omega))
  refine lv_iconst (pc := 576) (v := nI 4) S.1 S.2.1 dL_isRefused_576 (by decide) ?_
  refine lv_iconst (pc := 577) (v := nI 0) S.1 S.2.1 dL_isRefused_577 (by decide) ?_
  refine lv_iconst (pc := 578) (v := nI 0) S.1 S.2.1 dL_isRefused_578 (by decide) ?_
  refine hv_call (pc := 579) (vx_runSW (As := [.ref (az 0), .int (nI 17), .int (nI 4), .int (nI 0), .int (nI 0)]) (rest := []) S (ax_size_3 l hfl D cA ga φ H.size az tn tk tm tg sc ar w ez o o (nI 4) (nI 0) (nI 0) hY hI hT h200 (inX_3 ((by decide)))) (vx_cwSW 5 S.2.2.2.2 (gSW tw_261 tw_262 tw_0 tw_263) rfl rfl rfl (by decide +kernel) ⟨Nat.le_of_ble_eq_true rfl, Nat.le_of_ble_eq_true rfl⟩) (pre0_S hH hK hX hS hA) rfl rfl hl.1 rfl (lv_room (Nat.le_of_ble_eq_true rfl)) dL_isRefused_579 ⟨Nat.le_trans (show _ ≤ 2600 by omega) (Nat.le_of_ble_eq_true rfl), Nat.le_trans (show _ ≤ 17000 by omega) (Nat.le_of_ble_eq_true rfl)⟩) hS (af_le hH hS hA) (fun v_73 φ_74 H locs hw_v_73 hH hS => ?_)
  obtain ⟨rfl, hqv_73⟩ := hw_v_73
  rw [hqv_73] at hH
  refine lv_ldc (pc := 582) (v := (-16810000 : Int32)) S.1 S.2.1 S.2.2.2.1 (S.2.2.2.2 _ tw_885) dL_isRefused_582 ?_
  refine lv_icmp_ne (pc := 584) (tgt := 643) S.1 S.2.1 dL_isRefused_584 (by decide) (fun c9 => absurd c9 (fun h9 => h9 rfl)) (fun c_75 => ?_)
  refine lv_aload_n (pc := 587) S.1 S.2.1 dL_isRefused_587 rfl (lv_at hl 8 rfl) ?_
  refine lv_bipush (pc := 588) (v := nI 18) S.1 S.2.1 dL_isRefused_588 (by decide) ?_
  refine lv_iload (pc := 590) S.1 S.2.1 dL_isRefused_590 (lv_at hl 3 rfl) ?_
  refine lv_iconst (pc := 592) (v := nI 0) S.1 S.2.1 dL_isRefused_592 (by decide) ?_
  refine lv_iconst (pc := 593) (v := nI 0) S.1 S.2.1 dL_isRefused_593 (by decide) ?_
  refine hv_call (pc := 594) (vx_runSW (As := [.ref (az 0), .int (nI 18), .int (nI ((sc 5) + (x % 30))), .int (nI 0), .int (nI 0)]) (rest := []) S (ax_air_3 l hfl D cA ga φ H.size az tn tk tm tg sc ar w ez o o (nI ((sc 5) + (x % 30))) (nI 0) hY hI hT h200 (inX_3 hhand)) (vx_cwSW 5 S.2.2.2.2 (gSW tw_261 tw_262 tw_0 tw_263) rfl rfl rfl (by decide +kernel) ⟨Nat.le_of_ble_eq_true rfl, Nat.le_of_ble_eq_true rfl⟩) (pre0_S hH hK hX hS hA) rfl rfl hl.1 rfl (lv_room (Nat.le_of_ble_eq_true rfl)) dL_isRefused_594 ⟨Nat.le_trans (show _ ≤ 2600 by omega) (Nat.le_of_ble_eq_true rfl), Nat.le_trans (show _ ≤ 17000 by omega) (Nat.le_of_ble_eq_true rfl)⟩) hS (af_le hH hS hA) (fun v_76 φ_77 H locs hw_v_76 hH hS => ?_)
  obtain ⟨rfl, hqv_76⟩ := hw_v_76
  rw [hqv_76] at hH
  refine lv_ldc (pc := 597) (v := (-16810000 : Int32)) S.1 S.2.1 S.2.2.2.1 (S.2.2.2.2 _ tw_885) dL_isRefused_597 ?_
  refine lv_icmp_ne (pc := 599) (tgt := 643) S.1 S.2.1 dL_isRefused_599 (by decide) (fun c9 => absurd c9 (fun h9 => h9 rfl)) (fun c_78 => ?_)
  refine lv_aload_n (pc := 602) S.1 S.2.1 dL_isRefused_602 rfl (lv_at hl 8 rfl) ?_
  refine lv_bipush (pc := 603) (v := nI 19) S.1 S.2.1 dL_isRefused_603 (by decide) ?_
  refine lv_iload (pc := 605) S.1 S.2.1 dL_isRefused_605 (lv_at hl 5 rfl) ?_
  refine lv_iconst (pc := 607) (v := nI 0) S.1 S.2.1 dL_isRefused_607 (by decide) ?_
  refine lv_iconst (pc := 608) (v := nI 0) S.1 S.2.1 dL_isRefused_608 (by decide) ?_
  refine hv_call (pc := 609) (vx_runSW (As := [.ref (az 0), .int (nI 19), .int (nI ((sc 2) + (x % 30))), .int (nI 0), .int (nI 0)]) (rest := []) S (ax_grams_3 l hfl D cA ga φ H.size az tn tk tm tg sc ar w ez o o (nI ((sc 2) + (x % 30))) (nI 0) (nI 0) hY hI hT h200 (inX_3 hlot)) (vx_cwSW 5 S.2.2.2.2 (gSW tw_261 tw_262 tw_0 tw_263) rfl rfl rfl (by decide +kernel) ⟨Nat.le_of_ble_eq_true rfl, Nat.le_of_ble_eq_true rfl⟩) (pre0_S hH hK hX hS hA) rfl rfl hl.1 rfl (lv_room (Nat.le_of_ble_eq_true rfl)) dL_isRefused_609 ⟨Nat.le_trans (show _ ≤ 2600 by omega) (Nat.le_of_ble_eq_true rfl), Nat.le_trans (show _ ≤ 17000 by omega) (Nat.le_of_ble_eq_true rfl)⟩) hS (af_le hH hS hA) (fun v_79 φ_80 H locs hw_v_79 hH hS => ?_)
  obtain ⟨rfl, hqv_79⟩ := hw_v_79
  rw [hqv_79] at hH
  refine lv_ldc (pc := 612) (v := (-16810000 : Int32)) S.1 S.2.1 S.2.2.2.1 (S.2.2.2.2 _ tw_885) dL_isRefused_612 ?_
  refine lv_icmp_ne (pc := 614) (tgt := 643) S.1 S.2.1 dL_isRefused_614 (by decide) (fun c9 => absurd c9 (fun h9 => h9 rfl)) (fun c_81 => ?_)
  refine lv_aload_n (pc := 617) S.1 S.2.1 dL_isRefused_617 rfl (lv_at hl 9 rfl) ?_
  refine lv_iconst (pc := 618) (v := nI 5) S.1 S.2.1 dL_isRefused_618 (by decide) ?_
  refine hv_iald (pc := 619) S hK hH 1 (hY.a0) rfl (vp_in_nI (show 5 < 6 by omega) (by omega)) dL_isRefused_619 ?_
  refine hv_ti (y := nI ((o 0) 5)) (hv_ld (by omega)) ?_
  refine hv_ti (y := nI tk) (by rw [h5]) ?_
  refine lv_bipush (pc := 620) (v := nI 7) S.1 S.2.1 dL_isRefused_620 (by decide) ?_
  have h639 : ∀ (ls : Array Slot) (H : Heap) (locs : List Loc), hp D (Af φ sz) φ H → va_S (Af φ sz) s.heap H locs → lv_has ls 16 [(11, .long (allF sc ar w ez o)), (10, .int (nI (101 + (x % 30)))), (9, .int (nI (6 + (x % 30)))), (8, .int (nI ((sc 5) + (x % 30)))), (7, .int (nI ((sc 4) + (x % 30)))), (6, .int (nI ((sc 2) + (x % 30)))), (5, .int (nI ((sc 3) + (x % 30)))), (4, .int (nI 0)), (0, .ref (az 0)), (1, .ref (az 9)), (2, .ref (az 10)), (3, .int (nI x))] → W p l e { frames := 16, cells := 2600, slots := 17000, locals := 680 } s m args below meth c H locs (835) (4999) (MQ below (hQ (fun v φ' => v = some (.int (nI 1)) ∧ φ' = φ) D (Af φ sz)) args s 2600 17000 (Af φ sz)) (F0 m 639 ls []) := by
    intro ls H locs hH hS hl
    refine lv_iconst (pc := 639) (v := nI 1) S.1 S.2.1 dL_isRefused_639 (by decide) ?_
    refine lv_goto (pc := 640) (tgt := 644) S.1 S.2.1 dL_isRefused_640 (by decide) ?_
    refine lv_istore (pc := 644) (lv' := [(13, .int (nI 1)), (11, .long (allF sc ar w ez o)), (10, .int (nI (101 + (x % 30)))), (9, .int (nI (6 + (x % 30)))), (8, .int (nI ((sc 5) + (x % 30)))), (7, .int (nI ((sc 4) + (x % 30)))), (6, .int (nI ((sc 2) + (x % 30)))), (5, .int (nI ((sc 3) + (x % 30)))), (4, .int (nI 0)), (0, .ref (az 0)), (1, .ref (az 9)), (2, .ref (az 10)), (3, .int (nI x))]) S.1 S.2.1 dL_isRefused_644 hl (by decide) rfl (fun ls hl => ?_)
    refine lv_iconst (pc := 646) (v := nI 0) S.1 S.2.1 dL_isRefused_646 (by decide) ?_
    refine lv_istore (pc := 647) (lv' := [(14, .int (nI 0)), (13, .int (nI 1)), (11, .long (allF sc ar w ez o)), (10, .int (nI (101 + (x % 30)))), (9, .int (nI (6 + (x % 30)))), (8, .int (nI ((sc 5) + (x % 30)))), (7, .int (nI ((sc 4) + (x % 30)))), (6, .int (nI ((sc 2) + (x % 30)))), (5, .int (nI ((sc 3) + (x % 30)))), (4, .int (nI 0)), (0, .ref (az 0)), (1, .ref (az 9)), (2, .ref (az 10)), (3, .int (nI x))]) S.1 S.2.1 dL_isRefused_647 hl (by decide) rfl (fun ls hl => ?_)
    have hg : ∃ n k : Nat, (k + n = sc 2) ∧ lv_has ls 16 [(14, .int (nI k)), (13, .int (nI 1)), (11, .long (allF sc ar w ez o)), (10, .int (nI (101 + (x % 30)))), (9, .int (nI (6 + (x % 30)))), (8, .int (nI ((sc 5) + (x % 30)))), (7, .int (nI ((sc 4) + (x % 30)))), (6, .int (nI ((sc 2) + (x % 30)))), (5, .int (nI ((sc 3) + (x % 30)))), (4, .int (nI 0)), (0, .ref (az 0)), (1, .ref (az 9)), (2, .ref (az 10)), (3, .int (nI x))] := ⟨sc 2, 0, by omega, lv_sub hl [0, 1, 2, 3, 4, 5, 6, 7, 8, 9, 10, 11, 12, 13] rfl⟩
    clear hl
    try clear hHz
    obtain ⟨n, k, hi, hl⟩ := hg
    refine W.widen (k := 835 + 29 * k) (n := 4999 + 177 * k) (by omega) (by omega) ?_
    induction n generalizing ls H locs k with
    | zero =>
      have hkN : k = sc 2 := by omega
      refine lv_iload (pc := 649) S.1 S.2.1 dL_isRefused_649 (lv_at hl 0 rfl) ?_
      refine lv_aload_n (pc := 651) S.1 S.2.1 dL_isRefused_651 rfl (lv_at hl 11 rfl) ?_
      refine lv_iconst (pc := 652) (v := nI 0) S.1 S.2.1 dL_isRefused_652 (by decide) ?_
      refine hv_iald (pc := 653) S hK hH 1 (hY.a0) rfl (vp_in_nI (show 0 < 6 by omega) (by omega)) dL_isRefused_653 ?_
      refine hv_ti (y := nI ((o 0) 0)) (hv_ld (by omega)) ?_
      refine hv_ti (y := nI (sc 2)) (by rw [hm.1]) ?_
      refine hv_icmp_ge (pc := 654) (tgt := 770) (a := k) (b := sc 2) S.1 S.2.1 (by omega) (by omega) dL_isRefused_654 (by decide) (fun c_82 => ?_) (fun c9 => absurd c9 (by omega))
      refine lv_iconst (pc := 770) (v := nI 0) S.1 S.2.1 dL_isRefused_770 (by decide) ?_
      refine lv_istore (pc := 771) (lv' := [(14, .int (nI 0)), (13, .int (nI 1)), (11, .long (allF sc ar w ez o)), (10, .int (nI (101 + (x % 30)))), (9, .int (nI (6 + (x % 30)))), (8, .int (nI ((sc 5) + (x % 30)))), (7, .int (nI ((sc 4) + (x % 30)))), (6, .int (nI ((sc 2) + (x % 30)))), (5, .int (nI ((sc 3) + (x % 30)))), (4, .int (nI 0)), (0, .ref (az 0)), (1, .ref (az 9)), (2, .ref (az 10)), (3, .int (nI x))]) S.1 S.2.1 dL_isRefused_771 hl (by decide) rfl (fun ls hl => ?_)
      clear hi
      have hg : ∃ n k : Nat, (k + n = sc 3) ∧ lv_has ls 16 [(14, .int (nI k)), (13, .int (nI 1)), (11, .long (allF sc ar w ez o)), (10, .int (nI (101 + (x % 30)))), (9, .int (nI (6 + (x % 30)))), (8, .int (nI ((sc 5) + (x % 30)))), (7, .int (nI ((sc 4) + (x % 30)))), (6, .int (nI ((sc 2) + (x % 30)))), (5, .int (nI ((sc 3) + (x % 30)))), (4, .int (nI 0)), (0, .ref (az 0)), (1, .ref (az 9)), (2, .ref (az 10)), (3, .int (nI x))] := ⟨sc 3, 0, by omega, lv_sub hl [0, 1, 2, 3, 4, 5, 6, 7, 8, 9, 10, 11, 12, 13] rfl⟩
      clear hl
      try clear hHz
      obtain ⟨n, k, hi, hl⟩ := hg
      refine W.widen (k := 1125 + 40 * k) (n := 6769 + 240 * k) (by omega) (by omega) ?_
      induction n generalizing ls H locs k with
      | zero =>
        have hkN : k = sc 3 := by omega
        refine lv_iload (pc := 773) S.1 S.2.1 dL_isRefused_773 (lv_at hl 0 rfl) ?_
        refine lv_aload_n (pc := 775) S.1 S.2.1 dL_isRefused_775 rfl (lv_at hl 11 rfl) ?_
        refine lv_iconst (pc := 776) (v := nI 1) S.1 S.2.1 dL_isRefused_776 (by decide) ?_
        refine hv_iald (pc := 777) S hK hH 1 (hY.a0) rfl (vp_in_nI (show 1 < 6 by omega) (by omega)) dL_isRefused_777 ?_
        refine hv_ti (y := nI ((o 0) 1)) (hv_ld (by omega)) ?_
        refine hv_ti (y := nI (sc 3)) (by rw [hm.2.1]) ?_
        refine hv_icmp_ge (pc := 778) (tgt := 1001) (a := k) (b := sc 3) S.1 S.2.1 (by omega) (by omega) dL_isRefused_778 (by decide) (fun c_83 => ?_) (fun c9 => absurd c9 (by omega))
        refine lv_iload (pc := 1001) S.1 S.2.1 dL_isRefused_1001 (lv_at hl 1 rfl) ?_
        refine hv_if_eq (pc := 1003) (tgt := 1108) (a := 1) S.1 S.2.1 (by omega) dL_isRefused_1003 (by decide) (fun c9 => absurd c9 (by omega)) (fun c_84 => ?_)
        refine lv_aload_n (pc := 1006) S.1 S.2.1 dL_isRefused_1006 rfl (lv_at hl 11 rfl) ?_
        refine lv_iconst (pc := 1007) (v := nI 0) S.1 S.2.1 dL_isRefused_1007 (by decide) ?_
        refine hv_iald (pc := 1008) S hK hH 1 (hY.a0) rfl (vp_in_nI (show 0 < 6 by omega) (by omega)) dL_isRefused_1008 ?_
        refine hv_ti (y := nI ((o 0) 0)) (hv_ld (by omega)) ?_
        refine hv_ti (y := nI (sc 2)) (by rw [hm.1]) ?_
        refine lv_bipush (pc := 1009) (v := nI 10) S.1 S.2.1 dL_isRefused_1009 (by decide) ?_
        have h1027 : ∀ (ls : Array Slot) (H : Heap) (locs : List Loc), hp D (Af φ sz) φ H → va_S (Af φ sz) s.heap H locs → lv_has ls 16 [(11, .long (allF sc ar w ez o)), (0, .ref (az 0)), (1, .ref (az 9)), (2, .ref (az 10)), (3, .int (nI x))] → W p l e { frames := 16, cells := 2600, slots := 17000, locals := 680 } s m args below meth c H locs (1608) (9663) (MQ below (hQ (fun v φ' => v = some (.int (nI 1)) ∧ φ' = φ) D (Af φ sz)) args s 2600 17000 (Af φ sz)) (F0 m 1027 ls []) := by
          intro ls H locs hH hS hl
          refine lv_aload_n (pc := 1027) S.1 S.2.1 dL_isRefused_1027 rfl (lv_at hl 2 rfl) ?_
          refine lv_iconst (pc := 1028) (v := nI 2) S.1 S.2.1 dL_isRefused_1028 (by decide) ?_
          refine hv_iald (pc := 1029) S hK hH 1 (hY.a0) rfl (vp_in_nI (show 2 < 6 by omega) (by omega)) dL_isRefused_1029 ?_
          refine hv_ti (y := nI ((o 0) 2)) (hv_ld (by omega)) ?_
          refine hv_ti (y := nI (sc 4)) (by rw [hm.2.2.1]) ?_
          refine lv_bipush (pc := 1030) (v := nI 8) S.1 S.2.1 dL_isRefused_1030 (by decide) ?_
          have h1050 : ∀ (ls : Array Slot) (H : Heap) (locs : List Loc), hp D (Af φ sz) φ H → va_S (Af φ sz) s.heap H locs → lv_has ls 16 [(11, .long (allF sc ar w ez o)), (0, .ref (az 0)), (1, .ref (az 9)), (2, .ref (az 10)), (3, .int (nI x))] → W p l e { frames := 16, cells := 2600, slots := 17000, locals := 680 } s m args below meth c H locs (1612) (9683) (MQ below (hQ (fun v φ' => v = some (.int (nI 1)) ∧ φ' = φ) D (Af φ sz)) args s 2600 17000 (Af φ sz)) (F0 m 1050 ls []) := by
            intro ls H locs hH hS hl
            refine lv_aload_n (pc := 1050) S.1 S.2.1 dL_isRefused_1050 rfl (lv_at hl 2 rfl) ?_
            refine lv_iconst (pc := 1051) (v := nI 3) S.1 S.2.1 dL_isRefused_1051 (by decide) ?_
            refine hv_iald (pc := 1052) S hK hH 1 (hY.a0) rfl (vp_in_nI (show 3 < 6 by omega) (by omega)) dL_isRefused_1052 ?_
            refine hv_ti (y := nI ((o 0) 3)) (hv_ld (by omega)) ?_
            refine hv_ti (y := nI (sc 5)) (by rw [hm.2.2.2.1]) ?_
            refine lv_bipush (pc := 1053) (v := nI 6) S.1 S.2.1 dL_isRefused_1053 (by decide) ?_
            have h1071 : ∀ (ls : Array Slot) (H : Heap) (locs : List Loc), hp D (Af φ sz) φ H → va_S (Af φ sz) s.heap H locs → lv_has ls 16 [(11, .long (allF sc ar w ez o)), (0, .ref (az 0)), (1, .ref (az 9)), (2, .ref (az 10)), (3, .int (nI x))] → W p l e { frames := 16, cells := 2600, slots := 17000, locals := 680 } s m args below meth c H locs (1614) (9691) (MQ below (hQ (fun v φ' => v = some (.int (nI 1)) ∧ φ' = φ) D (Af φ sz)) args s 2600 17000 (Af φ sz)) (F0 m 1071 ls []) := by
              intro ls H locs hH hS hl
              refine lv_aload_n (pc := 1071) S.1 S.2.1 dL_isRefused_1071 rfl (lv_at hl 2 rfl) ?_
              refine lv_iconst (pc := 1072) (v := nI 1) S.1 S.2.1 dL_isRefused_1072 (by decide) ?_
              refine hv_iald (pc := 1073) S hK hH 1 (hY.a0) rfl (vp_in_nI (show 1 < 6 by omega) (by omega)) dL_isRefused_1073 ?_
              refine hv_ti (y := nI ((o 0) 1)) (hv_ld (by omega)) ?_
              refine hv_ti (y := nI (sc 3)) (by rw [hm.2.1]) ?_
              refine lv_bipush (pc := 1074) (v := nI 12) S.1 S.2.1 dL_isRefused_1074 (by decide) ?_
              have h1093 : ∀ (ls : Array Slot) (H : Heap) (locs : List Loc), hp D (Af φ sz) φ H → va_S (Af φ sz) s.heap H locs → lv_has ls 16 [(11, .long (allF sc ar w ez o)), (0, .ref (az 0)), (1, .ref (az 9)), (2, .ref (az 10)), (3, .int (nI x))] → W p l e { frames := 16, cells := 2600, slots := 17000, locals := 680 } s m args below meth c H locs (1623) (9746) (MQ below (hQ (fun v φ' => v = some (.int (nI 1)) ∧ φ' = φ) D (Af φ sz)) args s 2600 17000 (Af φ sz)) (F0 m 1093 ls []) := by
                intro ls H locs hH hS hl
                refine lv_aload_n (pc := 1093) S.1 S.2.1 dL_isRefused_1093 rfl (lv_at hl 1 rfl) ?_
                refine lv_aload_n (pc := 1094) S.1 S.2.1 dL_isRefused_1094 rfl (lv_at hl 2 rfl) ?_
                refine hv_call (pc := 1095) (va_runS (As := [.ref (az 0), .ref (az 9)]) (rest := []) S (l_all l hfl D cA ga φ H.size az tn tk tm tg sc ar w ez o hY hI hT) (va_cwS 2 S.2.2.2.2 (gS tw_891 tw_892 tw_0 tw_893) rfl rfl rfl (by decide +kernel) ⟨Nat.le_of_ble_eq_true rfl, Nat.le_of_ble_eq_true rfl⟩) (pre0_S hH hK hX hS hA) rfl rfl hl.1 rfl (lv_room (Nat.le_of_ble_eq_true rfl)) dL_isRefused_1095 ⟨Nat.le_trans (show _ ≤ 2600 by omega) (Nat.le_of_ble_eq_true rfl), Nat.le_trans (show _ ≤ 17000 by omega) (Nat.le_of_ble_eq_true rfl)⟩) hS (af_le hH hS hA) (fun v_85 φ_86 H locs hw_v_85 hH hS => ?_)
                obtain ⟨rfl, hqv_85⟩ := hw_v_85
                rw [hqv_85] at hH
                refine lv_lload (pc := 1098) S.1 S.2.1 dL_isRefused_1098 (lv_at hl 0 rfl) ?_
                refine W.lcmp S.1 S.2.1 dL_isRefused_1100 ?_
                refine hv_ti (y := nI 0) (lgc _) ?_
                refine hv_if_ne (pc := 1101) (tgt := 1108) (a := 0) S.1 S.2.1 (by omega) dL_isRefused_1101 (by decide) (fun c9 => absurd c9 (by omega)) (fun c_87 => ?_)
                refine lv_iconst (pc := 1104) (v := nI 1) S.1 S.2.1 dL_isRefused_1104 (by decide) ?_
                refine lv_goto (pc := 1105) (tgt := 1109) S.1 S.2.1 dL_isRefused_1105 (by decide) ?_
                exact hv_ret (pc := 1109) (v := nI 1) S hr rfl hlocks hH hS (⟨rfl, rfl⟩) (by omega) (by omega) dL_isRefused_1109
              by_cases h8 : sc 3 < 12
              · skip
                refine hv_icmp_lt (pc := 1076) (tgt := 1093) (a := sc 3) (b := 12) S.1 S.2.1 (by omega) (by omega) dL_isRefused_1076 (by decide) (fun c_88 => ?_) (fun c9 => absurd c9 (by omega))
                refine W.widen (k := 1623) (n := 9746) (by omega) (by omega) ?_
                exact h1093 ls H locs hH hS (lv_sub hl [0, 1, 2, 3, 4] rfl)
              · skip
                refine hv_icmp_lt (pc := 1076) (tgt := 1093) (a := sc 3) (b := 12) S.1 S.2.1 (by omega) (by omega) dL_isRefused_1076 (by decide) (fun c9 => absurd c9 (by omega)) (fun c_89 => ?_)
                have h9 : 12 ≤ sc 3 := by omega
                refine lv_aload_n (pc := 1079) S.1 S.2.1 dL_isRefused_1079 rfl (lv_at hl 1 rfl) ?_
                refine lv_iconst (pc := 1080) (v := nI 2) S.1 S.2.1 dL_isRefused_1080 (by decide) ?_
                refine lv_iconst (pc := 1081) (v := nI 0) S.1 S.2.1 dL_isRefused_1081 (by decide) ?_
                refine lv_bipush (pc := 1082) (v := nI 10) S.1 S.2.1 dL_isRefused_1082 (by decide) ?_
                refine lv_iconst (pc := 1084) (v := nI 0) S.1 S.2.1 dL_isRefused_1084 (by decide) ?_
                refine hv_call (pc := 1085) (vx_runSW (As := [.ref (az 0), .int (nI 2), .int (nI 0), .int (nI 10), .int (nI 0)]) (rest := []) S (ax_cone_2 l hfl D cA ga φ H.size az tn tk tm tg sc ar w ez o o (nI 0) (nI 10) (nI 0) hY hI hT h200 (coneX_2 (hm.2.2.2.2.2 (by omega)) (by omega) (by decide) (by decide) (by decide) (Or.inr h9))) (vx_cwSW 5 S.2.2.2.2 (gSW tw_261 tw_262 tw_0 tw_263) rfl rfl rfl (by decide +kernel) ⟨Nat.le_of_ble_eq_true rfl, Nat.le_of_ble_eq_true rfl⟩) (pre0_S hH hK hX hS hA) rfl rfl hl.1 rfl (lv_room (Nat.le_of_ble_eq_true rfl)) dL_isRefused_1085 ⟨Nat.le_trans (show _ ≤ 2600 by omega) (Nat.le_of_ble_eq_true rfl), Nat.le_trans (show _ ≤ 17000 by omega) (Nat.le_of_ble_eq_true rfl)⟩) hS (af_le hH hS hA) (fun v_90 φ_91 H locs hw_v_90 hH hS => ?_)
                obtain ⟨rfl, hqv_90⟩ := hw_v_90
                rw [hqv_90] at hH
                refine lv_ldc (pc := 1088) (v := (-16830000 : Int32)) S.1 S.2.1 S.2.2.2.1 (S.2.2.2.2 _ tw_887) dL_isRefused_1088 ?_
                refine lv_icmp_ne (pc := 1090) (tgt := 1108) S.1 S.2.1 dL_isRefused_1090 (by decide) (fun c9 => absurd c9 (fun h9 => h9 rfl)) (fun c_92 => ?_)
                refine W.widen (k := 1623) (n := 9746) (by omega) (by omega) ?_
                exact h1093 ls H locs hH hS (lv_sub hl [0, 1, 2, 3, 4] rfl)
            by_cases h8 : sc 5 < 6
            · skip
              refine hv_icmp_lt (pc := 1055) (tgt := 1071) (a := sc 5) (b := 6) S.1 S.2.1 (by omega) (by omega) dL_isRefused_1055 (by decide) (fun c_93 => ?_) (fun c9 => absurd c9 (by omega))
              refine W.widen (k := 1614) (n := 9691) (by omega) (by omega) ?_
              exact h1071 ls H locs hH hS (lv_sub hl [0, 1, 2, 3, 4] rfl)
            · skip
              refine hv_icmp_lt (pc := 1055) (tgt := 1071) (a := sc 5) (b := 6) S.1 S.2.1 (by omega) (by omega) dL_isRefused_1055 (by decide) (fun c9 => absurd c9 (by omega)) (fun c_94 => ?_)
              have h9 : 6 ≤ sc 5 := by omega
              refine lv_aload_n (pc := 1058) S.1 S.2.1 dL_isRefused_1058 rfl (lv_at hl 1 rfl) ?_
              refine lv_iconst (pc := 1059) (v := nI 3) S.1 S.2.1 dL_isRefused_1059 (by decide) ?_
              refine lv_iconst (pc := 1060) (v := nI 0) S.1 S.2.1 dL_isRefused_1060 (by decide) ?_
              refine lv_iconst (pc := 1061) (v := nI 0) S.1 S.2.1 dL_isRefused_1061 (by decide) ?_
              refine lv_iconst (pc := 1062) (v := nI 0) S.1 S.2.1 dL_isRefused_1062 (by decide) ?_
              refine hv_call (pc := 1063) (vx_runSW (As := [.ref (az 0), .int (nI 3), .int (nI 0), .int (nI 0), .int (nI 0)]) (rest := []) S (ax_hand_2 l hfl D cA ga φ H.size az tn tk tm tg sc ar w ez o o (nI 0) (nI 0) (nI 0) hY hI hT h200 (handX_2 h9)) (vx_cwSW 5 S.2.2.2.2 (gSW tw_261 tw_262 tw_0 tw_263) rfl rfl rfl (by decide +kernel) ⟨Nat.le_of_ble_eq_true rfl, Nat.le_of_ble_eq_true rfl⟩) (pre0_S hH hK hX hS hA) rfl rfl hl.1 rfl (lv_room (Nat.le_of_ble_eq_true rfl)) dL_isRefused_1063 ⟨Nat.le_trans (show _ ≤ 2600 by omega) (Nat.le_of_ble_eq_true rfl), Nat.le_trans (show _ ≤ 17000 by omega) (Nat.le_of_ble_eq_true rfl)⟩) hS (af_le hH hS hA) (fun v_95 φ_96 H locs hw_v_95 hH hS => ?_)
              obtain ⟨rfl, hqv_95⟩ := hw_v_95
              rw [hqv_95] at hH
              refine lv_ldc (pc := 1066) (v := (-16830000 : Int32)) S.1 S.2.1 S.2.2.2.1 (S.2.2.2.2 _ tw_887) dL_isRefused_1066 ?_
              refine lv_icmp_ne (pc := 1068) (tgt := 1108) S.1 S.2.1 dL_isRefused_1068 (by decide) (fun c9 => absurd c9 (fun h9 => h9 rfl)) (fun c_97 => ?_)
              refine W.widen (k := 1614) (n := 9691) (by omega) (by omega) ?_
              exact h1071 ls H locs hH hS (lv_sub hl [0, 1, 2, 3, 4] rfl)
          by_cases h8 : sc 4 < 8
          · skip
            refine hv_icmp_lt (pc := 1032) (tgt := 1050) (a := sc 4) (b := 8) S.1 S.2.1 (by omega) (by omega) dL_isRefused_1032 (by decide) (fun c_98 => ?_) (fun c9 => absurd c9 (by omega))
            refine W.widen (k := 1612) (n := 9683) (by omega) (by omega) ?_
            exact h1050 ls H locs hH hS (lv_sub hl [0, 1, 2, 3, 4] rfl)
          · skip
            refine hv_icmp_lt (pc := 1032) (tgt := 1050) (a := sc 4) (b := 8) S.1 S.2.1 (by omega) (by omega) dL_isRefused_1032 (by decide) (fun c9 => absurd c9 (by omega)) (fun c_99 => ?_)
            have h9 : 8 ≤ sc 4 := by omega
            refine lv_aload_n (pc := 1035) S.1 S.2.1 dL_isRefused_1035 rfl (lv_at hl 1 rfl) ?_
            refine lv_iconst (pc := 1036) (v := nI 5) S.1 S.2.1 dL_isRefused_1036 (by decide) ?_
            refine lv_sipush (pc := 1037) (v := nI 500) S.1 S.2.1 dL_isRefused_1037 (by decide) ?_
            refine lv_iconst (pc := 1040) (v := nI 3) S.1 S.2.1 dL_isRefused_1040 (by decide) ?_
            refine lv_iconst (pc := 1041) (v := nI 0) S.1 S.2.1 dL_isRefused_1041 (by decide) ?_
            refine hv_call (pc := 1042) (vx_runSW (As := [.ref (az 0), .int (nI 5), .int (nI 500), .int (nI 3), .int (nI 0)]) (rest := []) S (ax_block_2 l hfl D cA ga φ H.size az tn tk tm tg sc ar w ez o o (nI 500) (nI 3) (nI 0) hY hI hT h200 (blockX_2 h9)) (vx_cwSW 5 S.2.2.2.2 (gSW tw_261 tw_262 tw_0 tw_263) rfl rfl rfl (by decide +kernel) ⟨Nat.le_of_ble_eq_true rfl, Nat.le_of_ble_eq_true rfl⟩) (pre0_S hH hK hX hS hA) rfl rfl hl.1 rfl (lv_room (Nat.le_of_ble_eq_true rfl)) dL_isRefused_1042 ⟨Nat.le_trans (show _ ≤ 2600 by omega) (Nat.le_of_ble_eq_true rfl), Nat.le_trans (show _ ≤ 17000 by omega) (Nat.le_of_ble_eq_true rfl)⟩) hS (af_le hH hS hA) (fun v_100 φ_101 H locs hw_v_100 hH hS => ?_)
            obtain ⟨rfl, hqv_100⟩ := hw_v_100
            rw [hqv_100] at hH
            refine lv_ldc (pc := 1045) (v := (-16830000 : Int32)) S.1 S.2.1 S.2.2.2.1 (S.2.2.2.2 _ tw_887) dL_isRefused_1045 ?_
            refine lv_icmp_ne (pc := 1047) (tgt := 1108) S.1 S.2.1 dL_isRefused_1047 (by decide) (fun c9 => absurd c9 (fun h9 => h9 rfl)) (fun c_102 => ?_)
            refine W.widen (k := 1612) (n := 9683) (by omega) (by omega) ?_
            exact h1050 ls H locs hH hS (lv_sub hl [0, 1, 2, 3, 4] rfl)
        by_cases h8 : sc 2 < 10
        · skip
          refine hv_icmp_lt (pc := 1011) (tgt := 1027) (a := sc 2) (b := 10) S.1 S.2.1 (by omega) (by omega) dL_isRefused_1011 (by decide) (fun c_103 => ?_) (fun c9 => absurd c9 (by omega))
          refine W.widen (k := 1608) (n := 9663) (by omega) (by omega) ?_
          exact h1027 ls H locs hH hS (lv_sub hl [2, 10, 11, 12, 13] rfl)
        · skip
          refine hv_icmp_lt (pc := 1011) (tgt := 1027) (a := sc 2) (b := 10) S.1 S.2.1 (by omega) (by omega) dL_isRefused_1011 (by decide) (fun c9 => absurd c9 (by omega)) (fun c_104 => ?_)
          have h9 : 10 ≤ sc 2 := by omega
          refine lv_aload_n (pc := 1014) S.1 S.2.1 dL_isRefused_1014 rfl (lv_at hl 10 rfl) ?_
          refine lv_iconst (pc := 1015) (v := nI 1) S.1 S.2.1 dL_isRefused_1015 (by decide) ?_
          refine lv_iconst (pc := 1016) (v := nI 5) S.1 S.2.1 dL_isRefused_1016 (by decide) ?_
          refine lv_iconst (pc := 1017) (v := nI 0) S.1 S.2.1 dL_isRefused_1017 (by decide) ?_
          refine lv_iconst (pc := 1018) (v := nI 0) S.1 S.2.1 dL_isRefused_1018 (by decide) ?_
          refine hv_call (pc := 1019) (vx_runSW (As := [.ref (az 0), .int (nI 1), .int (nI 5), .int (nI 0), .int (nI 0)]) (rest := []) S (ax_lot_2 l hfl D cA ga φ H.size az tn tk tm tg sc ar w ez o o (nI 5) (nI 0) (nI 0) hY hI hT h200 (lotX_2 h9)) (vx_cwSW 5 S.2.2.2.2 (gSW tw_261 tw_262 tw_0 tw_263) rfl rfl rfl (by decide +kernel) ⟨Nat.le_of_ble_eq_true rfl, Nat.le_of_ble_eq_true rfl⟩) (pre0_S hH hK hX hS hA) rfl rfl hl.1 rfl (lv_room (Nat.le_of_ble_eq_true rfl)) dL_isRefused_1019 ⟨Nat.le_trans (show _ ≤ 2600 by omega) (Nat.le_of_ble_eq_true rfl), Nat.le_trans (show _ ≤ 17000 by omega) (Nat.le_of_ble_eq_true rfl)⟩) hS (af_le hH hS hA) (fun v_105 φ_106 H locs hw_v_105 hH hS => ?_)
          obtain ⟨rfl, hqv_105⟩ := hw_v_105
          rw [hqv_105] at hH
          refine lv_ldc (pc := 1022) (v := (-16830000 : Int32)) S.1 S.2.1 S.2.2.2.1 (S.2.2.2.2 _ tw_887) dL_isRefused_1022 ?_
          refine lv_icmp_ne (pc := 1024) (tgt := 1108) S.1 S.2.1 dL_isRefused_1024 (by decide) (fun c9 => absurd c9 (fun h9 => h9 rfl)) (fun c_107 => ?_)
          refine W.widen (k := 1608) (n := 9663) (by omega) (by omega) ?_
          exact h1027 ls H locs hH hS (lv_sub hl [2, 10, 11, 12, 13] rfl)
      | succ n ih =>
        refine lv_iload (pc := 773) S.1 S.2.1 dL_isRefused_773 (lv_at hl 0 rfl) ?_
        refine lv_aload_n (pc := 775) S.1 S.2.1 dL_isRefused_775 rfl (lv_at hl 11 rfl) ?_
        refine lv_iconst (pc := 776) (v := nI 1) S.1 S.2.1 dL_isRefused_776 (by decide) ?_
        refine hv_iald (pc := 777) S hK hH 1 (hY.a0) rfl (vp_in_nI (show 1 < 6 by omega) (by omega)) dL_isRefused_777 ?_
        refine hv_ti (y := nI ((o 0) 1)) (hv_ld (by omega)) ?_
        refine hv_ti (y := nI (sc 3)) (by rw [hm.2.1]) ?_
        refine hv_icmp_ge (pc := 778) (tgt := 1001) (a := k) (b := sc 3) S.1 S.2.1 (by omega) (by omega) dL_isRefused_778 (by decide) (fun c9 => absurd c9 (by omega)) (fun c_108 => ?_)
        refine lv_iload (pc := 781) S.1 S.2.1 dL_isRefused_781 (lv_at hl 1 rfl) ?_
        refine hv_if_eq (pc := 783) (tgt := 1001) (a := 1) S.1 S.2.1 (by omega) dL_isRefused_783 (by decide) (fun c9 => absurd c9 (by omega)) (fun c_109 => ?_)
        have hk : k < sc 3 := by omega
        have hlc := hI.lc k
        refine lv_aload_n (pc := 786) S.1 S.2.1 dL_isRefused_786 rfl (lv_at hl 10 rfl) ?_
        refine lv_iconst (pc := 787) (v := nI 4) S.1 S.2.1 dL_isRefused_787 (by decide) ?_
        refine lv_iload (pc := 788) S.1 S.2.1 dL_isRefused_788 (lv_at hl 0 rfl) ?_
        refine lv_iload (pc := 790) S.1 S.2.1 dL_isRefused_790 (lv_at hl 5 rfl) ?_
        refine lv_iconst (pc := 792) (v := nI 0) S.1 S.2.1 dL_isRefused_792 (by decide) ?_
        refine hv_call (pc := 793) (vx_runSW (As := [.ref (az 0), .int (nI 4), .int (nI k), .int (nI ((sc 5) + (x % 30))), .int (nI 0)]) (rest := []) S (ax_cycle_3 l hfl D cA ga φ H.size az tn tk tm tg sc ar w ez o o (nI k) (nI ((sc 5) + (x % 30))) (nI 0) hY hI hT h200 (cycleX_3h hk (by omega) hhand)) (vx_cwSW 5 S.2.2.2.2 (gSW tw_261 tw_262 tw_0 tw_263) rfl rfl rfl (by decide +kernel) ⟨Nat.le_of_ble_eq_true rfl, Nat.le_of_ble_eq_true rfl⟩) (pre0_S hH hK hX hS hA) rfl rfl hl.1 rfl (lv_room (Nat.le_of_ble_eq_true rfl)) dL_isRefused_793 ⟨Nat.le_trans (show _ ≤ 2600 by omega) (Nat.le_of_ble_eq_true rfl), Nat.le_trans (show _ ≤ 17000 by omega) (Nat.le_of_ble_eq_true rfl)⟩) hS (af_le hH hS hA) (fun v_110 φ_111 H locs hw_v_110 hH hS => ?_)
        obtain ⟨rfl, hqv_110⟩ := hw_v_110
        rw [hqv_110] at hH
        refine lv_ldc (pc := 796) (v := (-16810000 : Int32)) S.1 S.2.1 S.2.2.2.1 (S.2.2.2.2 _ tw_885) dL_isRefused_796 ?_
        refine lv_icmp_ne (pc := 798) (tgt := 992) S.1 S.2.1 dL_isRefused_798 (by decide) (fun c9 => absurd c9 (fun h9 => h9 rfl)) (fun c_112 => ?_)
        refine lv_aload_n (pc := 801) S.1 S.2.1 dL_isRefused_801 rfl (lv_at hl 10 rfl) ?_
        refine lv_bipush (pc := 802) (v := nI 6) S.1 S.2.1 dL_isRefused_802 (by decide) ?_
        refine lv_iload (pc := 804) S.1 S.2.1 dL_isRefused_804 (lv_at hl 0 rfl) ?_
        refine lv_iload (pc := 806) S.1 S.2.1 dL_isRefused_806 (lv_at hl 6 rfl) ?_
        refine lv_iconst (pc := 808) (v := nI 0) S.1 S.2.1 dL_isRefused_808 (by decide) ?_
        refine hv_call (pc := 809) (vx_runSW (As := [.ref (az 0), .int (nI 6), .int (nI k), .int (nI ((sc 4) + (x % 30))), .int (nI 0)]) (rest := []) S (ax_draw_3 l hfl D cA ga φ H.size az tn tk tm tg sc ar w ez o o (nI k) (nI ((sc 4) + (x % 30))) (nI 0) hY hI hT h200 (drawX_3b hk (by omega) hblock)) (vx_cwSW 5 S.2.2.2.2 (gSW tw_261 tw_262 tw_0 tw_263) rfl rfl rfl (by decide +kernel) ⟨Nat.le_of_ble_eq_true rfl, Nat.le_of_ble_eq_true rfl⟩) (pre0_S hH hK hX hS hA) rfl rfl hl.1 rfl (lv_room (Nat.le_of_ble_eq_true rfl)) dL_isRefused_809 ⟨Nat.le_trans (show _ ≤ 2600 by omega) (Nat.le_of_ble_eq_true rfl), Nat.le_trans (show _ ≤ 17000 by omega) (Nat.le_of_ble_eq_true rfl)⟩) hS (af_le hH hS hA) (fun v_113 φ_114 H locs hw_v_113 hH hS => ?_)
        obtain ⟨rfl, hqv_113⟩ := hw_v_113
        rw [hqv_113] at hH
        refine lv_ldc (pc := 812) (v := (-16810000 : Int32)) S.1 S.2.1 S.2.2.2.1 (S.2.2.2.2 _ tw_885) dL_isRefused_812 ?_
        refine lv_icmp_ne (pc := 814) (tgt := 992) S.1 S.2.1 dL_isRefused_814 (by decide) (fun c9 => absurd c9 (fun h9 => h9 rfl)) (fun c_115 => ?_)
        refine lv_aload_n (pc := 817) S.1 S.2.1 dL_isRefused_817 rfl (lv_at hl 10 rfl) ?_
        refine lv_bipush (pc := 818) (v := nI 9) S.1 S.2.1 dL_isRefused_818 (by decide) ?_
        refine lv_iload (pc := 820) S.1 S.2.1 dL_isRefused_820 (lv_at hl 0 rfl) ?_
        refine lv_iload (pc := 822) S.1 S.2.1 dL_isRefused_822 (lv_at hl 4 rfl) ?_
        refine lv_bipush (pc := 824) (v := nI 9) S.1 S.2.1 dL_isRefused_824 (by decide) ?_
        refine hv_call (pc := 826) (vx_runSW (As := [.ref (az 0), .int (nI 9), .int (nI k), .int (nI (6 + (x % 30))), .int (nI 9)]) (rest := []) S (ax_about_3 l hfl D cA ga φ H.size az tn tk tm tg sc ar w ez o o (nI k) (nI (6 + (x % 30))) (nI 9) hY hI hT h200 (aboutX_3b hk (by omega) hsix)) (vx_cwSW 5 S.2.2.2.2 (gSW tw_261 tw_262 tw_0 tw_263) rfl rfl rfl (by decide +kernel) ⟨Nat.le_of_ble_eq_true rfl, Nat.le_of_ble_eq_true rfl⟩) (pre0_S hH hK hX hS hA) rfl rfl hl.1 rfl (lv_room (Nat.le_of_ble_eq_true rfl)) dL_isRefused_826 ⟨Nat.le_trans (show _ ≤ 2600 by omega) (Nat.le_of_ble_eq_true rfl), Nat.le_trans (show _ ≤ 17000 by omega) (Nat.le_of_ble_eq_true rfl)⟩) hS (af_le hH hS hA) (fun v_116 φ_117 H locs hw_v_116 hH hS => ?_)
        obtain ⟨rfl, hqv_116⟩ := hw_v_116
        rw [hqv_116] at hH
        refine lv_ldc (pc := 829) (v := (-16810000 : Int32)) S.1 S.2.1 S.2.2.2.1 (S.2.2.2.2 _ tw_885) dL_isRefused_829 ?_
        refine lv_icmp_ne (pc := 831) (tgt := 992) S.1 S.2.1 dL_isRefused_831 (by decide) (fun c9 => absurd c9 (fun h9 => h9 rfl)) (fun c_118 => ?_)
        refine lv_aload_n (pc := 834) S.1 S.2.1 dL_isRefused_834 rfl (lv_at hl 10 rfl) ?_
        refine lv_bipush (pc := 835) (v := nI 9) S.1 S.2.1 dL_isRefused_835 (by decide) ?_
        refine lv_iload (pc := 837) S.1 S.2.1 dL_isRefused_837 (lv_at hl 0 rfl) ?_
        refine lv_iload_n (pc := 839) S.1 S.2.1 dL_isRefused_839 rfl (lv_at hl 13 rfl) ?_
        refine lv_bipush (pc := 840) (v := nI 6) S.1 S.2.1 dL_isRefused_840 (by decide) ?_
        refine lv_irem (pc := 842) S.1 S.2.1 dL_isRefused_842 (by decide) ?_
        refine hv_ti (y := nI (x % 6)) (pk_rem (by omega) (by omega) (by omega)) ?_
        refine lv_iload (pc := 843) S.1 S.2.1 dL_isRefused_843 (lv_at hl 9 rfl) ?_
        refine hv_if_eq (pc := 845) (tgt := 852) (a := 0) S.1 S.2.1 (by omega) dL_isRefused_845 (by decide) (fun c_119 => ?_) (fun c9 => absurd c9 (by omega))
        refine lv_iconst (pc := 852) (v := nI 4) S.1 S.2.1 dL_isRefused_852 (by decide) ?_
        refine lv_iload_n (pc := 853) S.1 S.2.1 dL_isRefused_853 rfl (lv_at hl 13 rfl) ?_
        refine lv_bipush (pc := 854) (v := nI 30) S.1 S.2.1 dL_isRefused_854 (by decide) ?_
        refine lv_irem (pc := 856) S.1 S.2.1 dL_isRefused_856 (by decide) ?_
        refine hv_ti (y := nI (x % 30)) (pk_rem (by omega) (by omega) (by omega)) ?_
        refine lv_iadd (pc := 857) S.1 S.2.1 dL_isRefused_857 ?_
        refine hv_ti (y := nI (4 + (x % 30))) (nI_add _ _) ?_
        refine hv_call (pc := 858) (vx_runSW (As := [.ref (az 0), .int (nI 9), .int (nI k), .int (nI (x % 6)), .int (nI (4 + (x % 30)))]) (rest := []) S (ax_about_1 l hfl D cA ga φ H.size az tn tk tm tg sc ar w ez o o (nI k) (nI (x % 6)) (nI (4 + (x % 30))) hY hI hT h200 (aboutX_1 hk (by omega) (Nat.mod_lt _ (by decide)) (highR (by omega) (by omega) (by decide)))) (vx_cwSW 5 S.2.2.2.2 (gSW tw_261 tw_262 tw_0 tw_263) rfl rfl rfl (by decide +kernel) ⟨Nat.le_of_ble_eq_true rfl, Nat.le_of_ble_eq_true rfl⟩) (pre0_S hH hK hX hS hA) rfl rfl hl.1 rfl (lv_room (Nat.le_of_ble_eq_true rfl)) dL_isRefused_858 ⟨Nat.le_trans (show _ ≤ 2600 by omega) (Nat.le_of_ble_eq_true rfl), Nat.le_trans (show _ ≤ 17000 by omega) (Nat.le_of_ble_eq_true rfl)⟩) hS (af_le hH hS hA) (fun v_120 φ_121 H locs hw_v_120 hH hS => ?_)
        obtain ⟨rfl, hqv_120⟩ := hw_v_120
        rw [hqv_120] at hH
        refine lv_ldc (pc := 861) (v := (-16820000 : Int32)) S.1 S.2.1 S.2.2.2.1 (S.2.2.2.2 _ tw_886) dL_isRefused_861 ?_
        refine lv_icmp_ne (pc := 863) (tgt := 992) S.1 S.2.1 dL_isRefused_863 (by decide) (fun c9 => absurd c9 (fun h9 => h9 rfl)) (fun c_122 => ?_)
        refine lv_aload_n (pc := 866) S.1 S.2.1 dL_isRefused_866 rfl (lv_at hl 10 rfl) ?_
        refine lv_bipush (pc := 867) (v := nI 10) S.1 S.2.1 dL_isRefused_867 (by decide) ?_
        refine lv_iload (pc := 869) S.1 S.2.1 dL_isRefused_869 (lv_at hl 0 rfl) ?_
        refine lv_iload (pc := 871) S.1 S.2.1 dL_isRefused_871 (lv_at hl 4 rfl) ?_
        refine lv_iconst (pc := 873) (v := nI 0) S.1 S.2.1 dL_isRefused_873 (by decide) ?_
        refine hv_call (pc := 874) (vx_runSW (As := [.ref (az 0), .int (nI 10), .int (nI k), .int (nI (6 + (x % 30))), .int (nI 0)]) (rest := []) S (ax_widthAnew_3 l hfl D cA ga φ H.size az tn tk tm tg sc ar w ez o o (nI k) (nI (6 + (x % 30))) (nI 0) hY hI hT h200 (anewX_3b hk (by omega) hsix)) (vx_cwSW 5 S.2.2.2.2 (gSW tw_261 tw_262 tw_0 tw_263) rfl rfl rfl (by decide +kernel) ⟨Nat.le_of_ble_eq_true rfl, Nat.le_of_ble_eq_true rfl⟩) (pre0_S hH hK hX hS hA) rfl rfl hl.1 rfl (lv_room (Nat.le_of_ble_eq_true rfl)) dL_isRefused_874 ⟨Nat.le_trans (show _ ≤ 2600 by omega) (Nat.le_of_ble_eq_true rfl), Nat.le_trans (show _ ≤ 17000 by omega) (Nat.le_of_ble_eq_true rfl)⟩) hS (af_le hH hS hA) (fun v_123 φ_124 H locs hw_v_123 hH hS => ?_)
        obtain ⟨rfl, hqv_123⟩ := hw_v_123
        rw [hqv_123] at hH
        refine lv_ldc (pc := 877) (v := (-16810000 : Int32)) S.1 S.2.1 S.2.2.2.1 (S.2.2.2.2 _ tw_885) dL_isRefused_877 ?_
        refine lv_icmp_ne (pc := 879) (tgt := 992) S.1 S.2.1 dL_isRefused_879 (by decide) (fun c9 => absurd c9 (fun h9 => h9 rfl)) (fun c_125 => ?_)
        refine lv_aload_n (pc := 882) S.1 S.2.1 dL_isRefused_882 rfl (lv_at hl 10 rfl) ?_
        refine lv_bipush (pc := 883) (v := nI 11) S.1 S.2.1 dL_isRefused_883 (by decide) ?_
        refine lv_iload (pc := 885) S.1 S.2.1 dL_isRefused_885 (lv_at hl 0 rfl) ?_
        refine lv_iload (pc := 887) S.1 S.2.1 dL_isRefused_887 (lv_at hl 9 rfl) ?_
        refine hv_if_eq (pc := 889) (tgt := 902) (a := 0) S.1 S.2.1 (by omega) dL_isRefused_889 (by decide) (fun c_126 => ?_) (fun c9 => absurd c9 (by omega))
        refine lv_sipush (pc := 902) (v := nI 151) S.1 S.2.1 dL_isRefused_902 (by decide) ?_
        refine lv_iconst (pc := 905) (v := nI 0) S.1 S.2.1 dL_isRefused_905 (by decide) ?_
        refine hv_call (pc := 906) (vx_runSW (As := [.ref (az 0), .int (nI 11), .int (nI k), .int (nI 151), .int (nI 0)]) (rest := []) S (ax_brim_1 l hfl D cA ga φ H.size az tn tk tm tg sc ar w ez o o (nI k) (nI 151) (nI 0) hY hI hT h200 (brimX_1 hk (by omega) ((by decide)))) (vx_cwSW 5 S.2.2.2.2 (gSW tw_261 tw_262 tw_0 tw_263) rfl rfl rfl (by decide +kernel) ⟨Nat.le_of_ble_eq_true rfl, Nat.le_of_ble_eq_true rfl⟩) (pre0_S hH hK hX hS hA) rfl rfl hl.1 rfl (lv_room (Nat.le_of_ble_eq_true rfl)) dL_isRefused_906 ⟨Nat.le_trans (show _ ≤ 2600 by omega) (Nat.le_of_ble_eq_true rfl), Nat.le_trans (show _ ≤ 17000 by omega) (Nat.le_of_ble_eq_true rfl)⟩) hS (af_le hH hS hA) (fun v_127 φ_128 H locs hw_v_127 hH hS => ?_)
        obtain ⟨rfl, hqv_127⟩ := hw_v_127
        rw [hqv_127] at hH
        refine lv_ldc (pc := 909) (v := (-16820000 : Int32)) S.1 S.2.1 S.2.2.2.1 (S.2.2.2.2 _ tw_886) dL_isRefused_909 ?_
        refine lv_icmp_ne (pc := 911) (tgt := 992) S.1 S.2.1 dL_isRefused_911 (by decide) (fun c9 => absurd c9 (fun h9 => h9 rfl)) (fun c_129 => ?_)
        refine lv_aload_n (pc := 914) S.1 S.2.1 dL_isRefused_914 rfl (lv_at hl 12 rfl) ?_
        refine lv_iconst (pc := 915) (v := nI 4) S.1 S.2.1 dL_isRefused_915 (by decide) ?_
        refine lv_iload (pc := 916) S.1 S.2.1 dL_isRefused_916 (lv_at hl 0 rfl) ?_
        refine lv_imul (pc := 918) S.1 S.2.1 dL_isRefused_918 ?_
        refine hv_ti (y := nI (4 * k)) (pk_mul _ _) ?_
        refine lv_iconst (pc := 919) (v := nI 3) S.1 S.2.1 dL_isRefused_919 (by decide) ?_
        refine lv_iadd (pc := 920) S.1 S.2.1 dL_isRefused_920 ?_
        refine hv_ti (y := nI ((4 * k) + 3)) (nI_add _ _) ?_
        refine hv_iald (pc := 921) S hK hH 1 (hY.a1) rfl (vp_in_nI (show (4 * k) + 3 < 48 by omega) (by omega)) dL_isRefused_921 ?_
        refine hv_ti (y := nI ((o 1) ((4 * k) + 3))) (hv_ld (by omega)) ?_
        refine hv_ti (y := nI (ar 9 k)) (by rw [hlc.2.2]) ?_
        have h9le := (hI.l3 k).2.2.1
        have h7le := (hI.l3 k).2.1
        by_cases h90 : ar 9 k = 0
        · skip
          refine hv_if_eq (pc := 922) (tgt := 940) (a := ar 9 k) S.1 S.2.1 (by omega) dL_isRefused_922 (by decide) (fun c_130 => ?_) (fun c9 => absurd c9 (by omega))
          refine lv_aload_n (pc := 940) S.1 S.2.1 dL_isRefused_940 rfl (lv_at hl 11 rfl) ?_
          refine lv_iconst (pc := 941) (v := nI 3) S.1 S.2.1 dL_isRefused_941 (by decide) ?_
          refine hv_iald (pc := 942) S hK hH 1 (hY.a0) rfl (vp_in_nI (show 3 < 6 by omega) (by omega)) dL_isRefused_942 ?_
          refine hv_ti (y := nI ((o 0) 3)) (hv_ld (by omega)) ?_
          refine hv_ti (y := nI (sc 5)) (by rw [hm.2.2.2.1]) ?_
          by_cases hh0 : sc 5 = 0
          · skip
            refine hv_if_eq (pc := 943) (tgt := 988) (a := sc 5) S.1 S.2.1 (by omega) dL_isRefused_943 (by decide) (fun c_131 => ?_) (fun c9 => absurd c9 (by omega))
            refine lv_iconst (pc := 988) (v := nI 1) S.1 S.2.1 dL_isRefused_988 (by decide) ?_
            refine lv_goto (pc := 989) (tgt := 993) S.1 S.2.1 dL_isRefused_989 (by decide) ?_
            refine lv_istore (pc := 993) (lv' := [(13, .int (nI 1)), (14, .int (nI k)), (11, .long (allF sc ar w ez o)), (10, .int (nI (101 + (x % 30)))), (9, .int (nI (6 + (x % 30)))), (8, .int (nI ((sc 5) + (x % 30)))), (7, .int (nI ((sc 4) + (x % 30)))), (6, .int (nI ((sc 2) + (x % 30)))), (5, .int (nI ((sc 3) + (x % 30)))), (4, .int (nI 0)), (0, .ref (az 0)), (1, .ref (az 9)), (2, .ref (az 10)), (3, .int (nI x))]) S.1 S.2.1 dL_isRefused_993 hl (by decide) rfl (fun ls hl => ?_)
            refine lv_iinc (pc := 995) (v := nI (k + 1)) (lv' := [(14, .int (nI (k + 1))), (13, .int (nI 1)), (11, .long (allF sc ar w ez o)), (10, .int (nI (101 + (x % 30)))), (9, .int (nI (6 + (x % 30)))), (8, .int (nI ((sc 5) + (x % 30)))), (7, .int (nI ((sc 4) + (x % 30)))), (6, .int (nI ((sc 2) + (x % 30)))), (5, .int (nI ((sc 3) + (x % 30)))), (4, .int (nI 0)), (0, .ref (az 0)), (1, .ref (az 9)), (2, .ref (az 10)), (3, .int (nI x))]) S.1 S.2.1 dL_isRefused_995 hl (k := 1) rfl (by first | rfl | exact nI_add _ _) (by decide) rfl (fun ls hl => ?_)
            refine lv_goto (pc := 998) (tgt := 773) S.1 S.2.1 dL_isRefused_998 (by decide) ?_
            refine W.widen (k := 1125 + 40 * (k + 1)) (n := 6769 + 240 * (k + 1)) (by omega) (by omega) ?_
            have hi2 : (k + 1) + (n) = sc 3 := by omega
            have hl2 : lv_has ls 16 [(14, .int (nI (k + 1))), (13, .int (nI 1)), (11, .long (allF sc ar w ez o)), (10, .int (nI (101 + (x % 30)))), (9, .int (nI (6 + (x % 30)))), (8, .int (nI ((sc 5) + (x % 30)))), (7, .int (nI ((sc 4) + (x % 30)))), (6, .int (nI ((sc 2) + (x % 30)))), (5, .int (nI ((sc 3) + (x % 30)))), (4, .int (nI 0)), (0, .ref (az 0)), (1, .ref (az 9)), (2, .ref (az 10)), (3, .int (nI x))] := lv_sub hl [0, 1, 2, 3, 4, 5, 6, 7, 8, 9, 10, 11, 12, 13] rfl
            apply ih (k := k + 1) <;> assumption
          · skip
            refine hv_if_eq (pc := 943) (tgt := 988) (a := sc 5) S.1 S.2.1 (by omega) dL_isRefused_943 (by decide) (fun c9 => absurd c9 (by omega)) (fun c_132 => ?_)
            refine lv_aload_n (pc := 946) S.1 S.2.1 dL_isRefused_946 rfl (lv_at hl 12 rfl) ?_
            refine lv_iconst (pc := 947) (v := nI 4) S.1 S.2.1 dL_isRefused_947 (by decide) ?_
            refine lv_iload (pc := 948) S.1 S.2.1 dL_isRefused_948 (lv_at hl 0 rfl) ?_
            refine lv_imul (pc := 950) S.1 S.2.1 dL_isRefused_950 ?_
            refine hv_ti (y := nI (4 * k)) (pk_mul _ _) ?_
            refine lv_iconst (pc := 951) (v := nI 2) S.1 S.2.1 dL_isRefused_951 (by decide) ?_
            refine lv_iadd (pc := 952) S.1 S.2.1 dL_isRefused_952 ?_
            refine hv_ti (y := nI ((4 * k) + 2)) (nI_add _ _) ?_
            refine hv_iald (pc := 953) S hK hH 1 (hY.a1) rfl (vp_in_nI (show (4 * k) + 2 < 48 by omega) (by omega)) dL_isRefused_953 ?_
            refine hv_ti (y := nI ((o 1) ((4 * k) + 2))) (hv_ld (by omega)) ?_
            refine hv_ti (y := nI (if ez 2 k = 0 then 0 else 1)) (by rw [hlc.2.1]) ?_
            by_cases he0 : ez 2 k = 0
            · skip
              refine hv_ti (y := nI 0) (by rw [if_pos he0]) ?_
              refine hv_if_ne (pc := 954) (tgt := 970) (a := 0) S.1 S.2.1 (by omega) dL_isRefused_954 (by decide) (fun c9 => absurd c9 (by omega)) (fun c_133 => ?_)
              refine lv_aload_n (pc := 957) S.1 S.2.1 dL_isRefused_957 rfl (lv_at hl 12 rfl) ?_
              refine lv_iconst (pc := 958) (v := nI 4) S.1 S.2.1 dL_isRefused_958 (by decide) ?_
              refine lv_iload (pc := 959) S.1 S.2.1 dL_isRefused_959 (lv_at hl 0 rfl) ?_
              refine lv_imul (pc := 961) S.1 S.2.1 dL_isRefused_961 ?_
              refine hv_ti (y := nI (4 * k)) (pk_mul _ _) ?_
              refine lv_iconst (pc := 962) (v := nI 1) S.1 S.2.1 dL_isRefused_962 (by decide) ?_
              refine lv_iadd (pc := 963) S.1 S.2.1 dL_isRefused_963 ?_
              refine hv_ti (y := nI ((4 * k) + 1)) (nI_add _ _) ?_
              refine hv_iald (pc := 964) S hK hH 1 (hY.a1) rfl (vp_in_nI (show (4 * k) + 1 < 48 by omega) (by omega)) dL_isRefused_964 ?_
              refine hv_ti (y := nI ((o 1) ((4 * k) + 1))) (hv_ld (by omega)) ?_
              refine hv_ti (y := nI (ar 7 k)) (by rw [hlc.1]) ?_
              refine lv_bipush (pc := 965) (v := nI 12) S.1 S.2.1 dL_isRefused_965 (by decide) ?_
              by_cases h12 : ar 7 k < 12
              · skip
                refine hv_icmp_lt (pc := 967) (tgt := 988) (a := ar 7 k) (b := 12) S.1 S.2.1 (by omega) (by omega) dL_isRefused_967 (by decide) (fun c_134 => ?_) (fun c9 => absurd c9 (by omega))
                refine lv_iconst (pc := 988) (v := nI 1) S.1 S.2.1 dL_isRefused_988 (by decide) ?_
                refine lv_goto (pc := 989) (tgt := 993) S.1 S.2.1 dL_isRefused_989 (by decide) ?_
                refine lv_istore (pc := 993) (lv' := [(13, .int (nI 1)), (14, .int (nI k)), (11, .long (allF sc ar w ez o)), (10, .int (nI (101 + (x % 30)))), (9, .int (nI (6 + (x % 30)))), (8, .int (nI ((sc 5) + (x % 30)))), (7, .int (nI ((sc 4) + (x % 30)))), (6, .int (nI ((sc 2) + (x % 30)))), (5, .int (nI ((sc 3) + (x % 30)))), (4, .int (nI 0)), (0, .ref (az 0)), (1, .ref (az 9)), (2, .ref (az 10)), (3, .int (nI x))]) S.1 S.2.1 dL_isRefused_993 hl (by decide) rfl (fun ls hl => ?_)
                refine lv_iinc (pc := 995) (v := nI (k + 1)) (lv' := [(14, .int (nI (k + 1))), (13, .int (nI 1)), (11, .long (allF sc ar w ez o)), (10, .int (nI (101 + (x % 30)))), (9, .int (nI (6 + (x % 30)))), (8, .int (nI ((sc 5) + (x % 30)))), (7, .int (nI ((sc 4) + (x % 30)))), (6, .int (nI ((sc 2) + (x % 30)))), (5, .int (nI ((sc 3) + (x % 30)))), (4, .int (nI 0)), (0, .ref (az 0)), (1, .ref (az 9)), (2, .ref (az 10)), (3, .int (nI x))]) S.1 S.2.1 dL_isRefused_995 hl (k := 1) rfl (by first | rfl | exact nI_add _ _) (by decide) rfl (fun ls hl => ?_)
                refine lv_goto (pc := 998) (tgt := 773) S.1 S.2.1 dL_isRefused_998 (by decide) ?_
                refine W.widen (k := 1125 + 40 * (k + 1)) (n := 6769 + 240 * (k + 1)) (by omega) (by omega) ?_
                have hi2 : (k + 1) + (n) = sc 3 := by omega
                have hl2 : lv_has ls 16 [(14, .int (nI (k + 1))), (13, .int (nI 1)), (11, .long (allF sc ar w ez o)), (10, .int (nI (101 + (x % 30)))), (9, .int (nI (6 + (x % 30)))), (8, .int (nI ((sc 5) + (x % 30)))), (7, .int (nI ((sc 4) + (x % 30)))), (6, .int (nI ((sc 2) + (x % 30)))), (5, .int (nI ((sc 3) + (x % 30)))), (4, .int (nI 0)), (0, .ref (az 0)), (1, .ref (az 9)), (2, .ref (az 10)), (3, .int (nI x))] := lv_sub hl [0, 1, 2, 3, 4, 5, 6, 7, 8, 9, 10, 11, 12, 13] rfl
                apply ih (k := k + 1) <;> assumption
              · skip
                refine hv_icmp_lt (pc := 967) (tgt := 988) (a := ar 7 k) (b := 12) S.1 S.2.1 (by omega) (by omega) dL_isRefused_967 (by decide) (fun c9 => absurd c9 (by omega)) (fun c_135 => ?_)
                refine lv_aload_n (pc := 970) S.1 S.2.1 dL_isRefused_970 rfl (lv_at hl 10 rfl) ?_
                refine lv_iconst (pc := 971) (v := nI 4) S.1 S.2.1 dL_isRefused_971 (by decide) ?_
                refine lv_iload (pc := 972) S.1 S.2.1 dL_isRefused_972 (lv_at hl 0 rfl) ?_
                refine lv_iload_n (pc := 974) S.1 S.2.1 dL_isRefused_974 rfl (lv_at hl 13 rfl) ?_
                refine lv_aload_n (pc := 975) S.1 S.2.1 dL_isRefused_975 rfl (lv_at hl 11 rfl) ?_
                refine lv_iconst (pc := 976) (v := nI 3) S.1 S.2.1 dL_isRefused_976 (by decide) ?_
                refine hv_iald (pc := 977) S hK hH 1 (hY.a0) rfl (vp_in_nI (show 3 < 6 by omega) (by omega)) dL_isRefused_977 ?_
                refine hv_ti (y := nI ((o 0) 3)) (hv_ld (by omega)) ?_
                refine hv_ti (y := nI (sc 5)) (by rw [hm.2.2.2.1]) ?_
                refine lv_irem (pc := 978) S.1 S.2.1 dL_isRefused_978 (fun h9 => hh0 (jI_inj (show nI (sc 5) = nI 0 from h9.trans nI_0.symm) (by omega) (by omega))) ?_
                refine hv_ti (y := nI (x % (sc 5))) (pk_rem (by omega) (by omega) (by omega)) ?_
                refine lv_iconst (pc := 979) (v := nI 0) S.1 S.2.1 dL_isRefused_979 (by decide) ?_
                refine hv_call (pc := 980) (vx_runSW (As := [.ref (az 0), .int (nI 4), .int (nI k), .int (nI (x % (sc 5))), .int (nI 0)]) (rest := []) S (ax_cycle_2 l hfl D cA ga φ H.size az tn tk tm tg sc ar w ez o o (nI k) (nI (x % (sc 5))) (nI 0) hY hI hT h200 (cycleX_2 hk (by omega) (Nat.mod_lt _ (by omega)) (by omega) (Or.inr (Or.inr (by omega))))) (vx_cwSW 5 S.2.2.2.2 (gSW tw_261 tw_262 tw_0 tw_263) rfl rfl rfl (by decide +kernel) ⟨Nat.le_of_ble_eq_true rfl, Nat.le_of_ble_eq_true rfl⟩) (pre0_S hH hK hX hS hA) rfl rfl hl.1 rfl (lv_room (Nat.le_of_ble_eq_true rfl)) dL_isRefused_980 ⟨Nat.le_trans (show _ ≤ 2600 by omega) (Nat.le_of_ble_eq_true rfl), Nat.le_trans (show _ ≤ 17000 by omega) (Nat.le_of_ble_eq_true rfl)⟩) hS (af_le hH hS hA) (fun v_136 φ_137 H locs hw_v_136 hH hS => ?_)
                obtain ⟨rfl, hqv_136⟩ := hw_v_136
                rw [hqv_136] at hH
                refine lv_ldc (pc := 983) (v := (-16830000 : Int32)) S.1 S.2.1 S.2.2.2.1 (S.2.2.2.2 _ tw_887) dL_isRefused_983 ?_
                refine lv_icmp_ne (pc := 985) (tgt := 992) S.1 S.2.1 dL_isRefused_985 (by decide) (fun c9 => absurd c9 (fun h9 => h9 rfl)) (fun c_138 => ?_)
                refine lv_iconst (pc := 988) (v := nI 1) S.1 S.2.1 dL_isRefused_988 (by decide) ?_
                refine lv_goto (pc := 989) (tgt := 993) S.1 S.2.1 dL_isRefused_989 (by decide) ?_
                refine lv_istore (pc := 993) (lv' := [(13, .int (nI 1)), (14, .int (nI k)), (11, .long (allF sc ar w ez o)), (10, .int (nI (101 + (x % 30)))), (9, .int (nI (6 + (x % 30)))), (8, .int (nI ((sc 5) + (x % 30)))), (7, .int (nI ((sc 4) + (x % 30)))), (6, .int (nI ((sc 2) + (x % 30)))), (5, .int (nI ((sc 3) + (x % 30)))), (4, .int (nI 0)), (0, .ref (az 0)), (1, .ref (az 9)), (2, .ref (az 10)), (3, .int (nI x))]) S.1 S.2.1 dL_isRefused_993 hl (by decide) rfl (fun ls hl => ?_)
                refine lv_iinc (pc := 995) (v := nI (k + 1)) (lv' := [(14, .int (nI (k + 1))), (13, .int (nI 1)), (11, .long (allF sc ar w ez o)), (10, .int (nI (101 + (x % 30)))), (9, .int (nI (6 + (x % 30)))), (8, .int (nI ((sc 5) + (x % 30)))), (7, .int (nI ((sc 4) + (x % 30)))), (6, .int (nI ((sc 2) + (x % 30)))), (5, .int (nI ((sc 3) + (x % 30)))), (4, .int (nI 0)), (0, .ref (az 0)), (1, .ref (az 9)), (2, .ref (az 10)), (3, .int (nI x))]) S.1 S.2.1 dL_isRefused_995 hl (k := 1) rfl (by first | rfl | exact nI_add _ _) (by decide) rfl (fun ls hl => ?_)
                refine lv_goto (pc := 998) (tgt := 773) S.1 S.2.1 dL_isRefused_998 (by decide) ?_
                refine W.widen (k := 1125 + 40 * (k + 1)) (n := 6769 + 240 * (k + 1)) (by omega) (by omega) ?_
                have hi2 : (k + 1) + (n) = sc 3 := by omega
                have hl2 : lv_has ls 16 [(14, .int (nI (k + 1))), (13, .int (nI 1)), (11, .long (allF sc ar w ez o)), (10, .int (nI (101 + (x % 30)))), (9, .int (nI (6 + (x % 30)))), (8, .int (nI ((sc 5) + (x % 30)))), (7, .int (nI ((sc 4) + (x % 30)))), (6, .int (nI ((sc 2) + (x % 30)))), (5, .int (nI ((sc 3) + (x % 30)))), (4, .int (nI 0)), (0, .ref (az 0)), (1, .ref (az 9)), (2, .ref (az 10)), (3, .int (nI x))] := lv_sub hl [0, 1, 2, 3, 4, 5, 6, 7, 8, 9, 10, 11, 12, 13] rfl
                apply ih (k := k + 1) <;> assumption
            · skip
              refine hv_ti (y := nI 1) (by rw [if_neg he0]) ?_
              refine hv_if_ne (pc := 954) (tgt := 970) (a := 1) S.1 S.2.1 (by omega) dL_isRefused_954 (by decide) (fun c_139 => ?_) (fun c9 => absurd c9 (by omega))
              refine lv_aload_n (pc := 970) S.1 S.2.1 dL_isRefused_970 rfl (lv_at hl 10 rfl) ?_
              refine lv_iconst (pc := 971) (v := nI 4) S.1 S.2.1 dL_isRefused_971 (by decide) ?_
              refine lv_iload (pc := 972) S.1 S.2.1 dL_isRefused_972 (lv_at hl 0 rfl) ?_
              refine lv_iload_n (pc := 974) S.1 S.2.1 dL_isRefused_974 rfl (lv_at hl 13 rfl) ?_
              refine lv_aload_n (pc := 975) S.1 S.2.1 dL_isRefused_975 rfl (lv_at hl 11 rfl) ?_
              refine lv_iconst (pc := 976) (v := nI 3) S.1 S.2.1 dL_isRefused_976 (by decide) ?_
              refine hv_iald (pc := 977) S hK hH 1 (hY.a0) rfl (vp_in_nI (show 3 < 6 by omega) (by omega)) dL_isRefused_977 ?_
              refine hv_ti (y := nI ((o 0) 3)) (hv_ld (by omega)) ?_
              refine hv_ti (y := nI (sc 5)) (by rw [hm.2.2.2.1]) ?_
              refine lv_irem (pc := 978) S.1 S.2.1 dL_isRefused_978 (fun h9 => hh0 (jI_inj (show nI (sc 5) = nI 0 from h9.trans nI_0.symm) (by omega) (by omega))) ?_
              refine hv_ti (y := nI (x % (sc 5))) (pk_rem (by omega) (by omega) (by omega)) ?_
              refine lv_iconst (pc := 979) (v := nI 0) S.1 S.2.1 dL_isRefused_979 (by decide) ?_
              refine hv_call (pc := 980) (vx_runSW (As := [.ref (az 0), .int (nI 4), .int (nI k), .int (nI (x % (sc 5))), .int (nI 0)]) (rest := []) S (ax_cycle_2 l hfl D cA ga φ H.size az tn tk tm tg sc ar w ez o o (nI k) (nI (x % (sc 5))) (nI 0) hY hI hT h200 (cycleX_2 hk (by omega) (Nat.mod_lt _ (by omega)) (by omega) (Or.inr (Or.inl he0)))) (vx_cwSW 5 S.2.2.2.2 (gSW tw_261 tw_262 tw_0 tw_263) rfl rfl rfl (by decide +kernel) ⟨Nat.le_of_ble_eq_true rfl, Nat.le_of_ble_eq_true rfl⟩) (pre0_S hH hK hX hS hA) rfl rfl hl.1 rfl (lv_room (Nat.le_of_ble_eq_true rfl)) dL_isRefused_980 ⟨Nat.le_trans (show _ ≤ 2600 by omega) (Nat.le_of_ble_eq_true rfl), Nat.le_trans (show _ ≤ 17000 by omega) (Nat.le_of_ble_eq_true rfl)⟩) hS (af_le hH hS hA) (fun v_140 φ_141 H locs hw_v_140 hH hS => ?_)
              obtain ⟨rfl, hqv_140⟩ := hw_v_140
              rw [hqv_140] at hH
              refine lv_ldc (pc := 983) (v := (-16830000 : Int32)) S.1 S.2.1 S.2.2.2.1 (S.2.2.2.2 _ tw_887) dL_isRefused_983 ?_
              refine lv_icmp_ne (pc := 985) (tgt := 992) S.1 S.2.1 dL_isRefused_985 (by decide) (fun c9 => absurd c9 (fun h9 => h9 rfl)) (fun c_142 => ?_)
              refine lv_iconst (pc := 988) (v := nI 1) S.1 S.2.1 dL_isRefused_988 (by decide) ?_
              refine lv_goto (pc := 989) (tgt := 993) S.1 S.2.1 dL_isRefused_989 (by decide) ?_
              refine lv_istore (pc := 993) (lv' := [(13, .int (nI 1)), (14, .int (nI k)), (11, .long (allF sc ar w ez o)), (10, .int (nI (101 + (x % 30)))), (9, .int (nI (6 + (x % 30)))), (8, .int (nI ((sc 5) + (x % 30)))), (7, .int (nI ((sc 4) + (x % 30)))), (6, .int (nI ((sc 2) + (x % 30)))), (5, .int (nI ((sc 3) + (x % 30)))), (4, .int (nI 0)), (0, .ref (az 0)), (1, .ref (az 9)), (2, .ref (az 10)), (3, .int (nI x))]) S.1 S.2.1 dL_isRefused_993 hl (by decide) rfl (fun ls hl => ?_)
              refine lv_iinc (pc := 995) (v := nI (k + 1)) (lv' := [(14, .int (nI (k + 1))), (13, .int (nI 1)), (11, .long (allF sc ar w ez o)), (10, .int (nI (101 + (x % 30)))), (9, .int (nI (6 + (x % 30)))), (8, .int (nI ((sc 5) + (x % 30)))), (7, .int (nI ((sc 4) + (x % 30)))), (6, .int (nI ((sc 2) + (x % 30)))), (5, .int (nI ((sc 3) + (x % 30)))), (4, .int (nI 0)), (0, .ref (az 0)), (1, .ref (az 9)), (2, .ref (az 10)), (3, .int (nI x))]) S.1 S.2.1 dL_isRefused_995 hl (k := 1) rfl (by first | rfl | exact nI_add _ _) (by decide) rfl (fun ls hl => ?_)
              refine lv_goto (pc := 998) (tgt := 773) S.1 S.2.1 dL_isRefused_998 (by decide) ?_
              refine W.widen (k := 1125 + 40 * (k + 1)) (n := 6769 + 240 * (k + 1)) (by omega) (by omega) ?_
              have hi2 : (k + 1) + (n) = sc 3 := by omega
              have hl2 : lv_has ls 16 [(14, .int (nI (k + 1))), (13, .int (nI 1)), (11, .long (allF sc ar w ez o)), (10, .int (nI (101 + (x % 30)))), (9, .int (nI (6 + (x % 30)))), (8, .int (nI ((sc 5) + (x % 30)))), (7, .int (nI ((sc 4) + (x % 30)))), (6, .int (nI ((sc 2) + (x % 30)))), (5, .int (nI ((sc 3) + (x % 30)))), (4, .int (nI 0)), (0, .ref (az 0)), (1, .ref (az 9)), (2, .ref (az 10)), (3, .int (nI x))] := lv_sub hl [0, 1, 2, 3, 4, 5, 6, 7, 8, 9, 10, 11, 12, 13] rfl
              apply ih (k := k + 1) <;> assumption
        · skip
          refine hv_if_eq (pc := 922) (tgt := 940) (a := ar 9 k) S.1 S.2.1 (by omega) dL_isRefused_922 (by decide) (fun c9 => absurd c9 (by omega)) (fun c_143 => ?_)
          refine lv_aload_n (pc := 925) S.1 S.2.1 dL_isRefused_925 rfl (lv_at hl 10 rfl) ?_
          refine lv_bipush (pc := 926) (v := nI 7) S.1 S.2.1 dL_isRefused_926 (by decide) ?_
          refine lv_iload (pc := 928) S.1 S.2.1 dL_isRefused_928 (lv_at hl 0 rfl) ?_
          refine lv_iconst (pc := 930) (v := nI 0) S.1 S.2.1 dL_isRefused_930 (by decide) ?_
          refine lv_iconst (pc := 931) (v := nI 0) S.1 S.2.1 dL_isRefused_931 (by decide) ?_
          refine hv_call (pc := 932) (vx_runSW (As := [.ref (az 0), .int (nI 7), .int (nI k), .int (nI 0), .int (nI 0)]) (rest := []) S (ax_trim_2 l hfl D cA ga φ H.size az tn tk tm tg sc ar w ez o o (nI k) (nI 0) (nI 0) hY hI hT h200 (trimX_2 hk (by omega) h90)) (vx_cwSW 5 S.2.2.2.2 (gSW tw_261 tw_262 tw_0 tw_263) rfl rfl rfl (by decide +kernel) ⟨Nat.le_of_ble_eq_true rfl, Nat.le_of_ble_eq_true rfl⟩) (pre0_S hH hK hX hS hA) rfl rfl hl.1 rfl (lv_room (Nat.le_of_ble_eq_true rfl)) dL_isRefused_932 ⟨Nat.le_trans (show _ ≤ 2600 by omega) (Nat.le_of_ble_eq_true rfl), Nat.le_trans (show _ ≤ 17000 by omega) (Nat.le_of_ble_eq_true rfl)⟩) hS (af_le hH hS hA) (fun v_144 φ_145 H locs hw_v_144 hH hS => ?_)
          obtain ⟨rfl, hqv_144⟩ := hw_v_144
          rw [hqv_144] at hH
          refine lv_ldc (pc := 935) (v := (-16830000 : Int32)) S.1 S.2.1 S.2.2.2.1 (S.2.2.2.2 _ tw_887) dL_isRefused_935 ?_
          refine lv_icmp_ne (pc := 937) (tgt := 992) S.1 S.2.1 dL_isRefused_937 (by decide) (fun c9 => absurd c9 (fun h9 => h9 rfl)) (fun c_146 => ?_)
          refine lv_aload_n (pc := 940) S.1 S.2.1 dL_isRefused_940 rfl (lv_at hl 11 rfl) ?_
          refine lv_iconst (pc := 941) (v := nI 3) S.1 S.2.1 dL_isRefused_941 (by decide) ?_
          refine hv_iald (pc := 942) S hK hH 1 (hY.a0) rfl (vp_in_nI (show 3 < 6 by omega) (by omega)) dL_isRefused_942 ?_
          refine hv_ti (y := nI ((o 0) 3)) (hv_ld (by omega)) ?_
          refine hv_ti (y := nI (sc 5)) (by rw [hm.2.2.2.1]) ?_
          by_cases hh0 : sc 5 = 0
          · skip
            refine hv_if_eq (pc := 943) (tgt := 988) (a := sc 5) S.1 S.2.1 (by omega) dL_isRefused_943 (by decide) (fun c_147 => ?_) (fun c9 => absurd c9 (by omega))
            refine lv_iconst (pc := 988) (v := nI 1) S.1 S.2.1 dL_isRefused_988 (by decide) ?_
            refine lv_goto (pc := 989) (tgt := 993) S.1 S.2.1 dL_isRefused_989 (by decide) ?_
            refine lv_istore (pc := 993) (lv' := [(13, .int (nI 1)), (14, .int (nI k)), (11, .long (allF sc ar w ez o)), (10, .int (nI (101 + (x % 30)))), (9, .int (nI (6 + (x % 30)))), (8, .int (nI ((sc 5) + (x % 30)))), (7, .int (nI ((sc 4) + (x % 30)))), (6, .int (nI ((sc 2) + (x % 30)))), (5, .int (nI ((sc 3) + (x % 30)))), (4, .int (nI 0)), (0, .ref (az 0)), (1, .ref (az 9)), (2, .ref (az 10)), (3, .int (nI x))]) S.1 S.2.1 dL_isRefused_993 hl (by decide) rfl (fun ls hl => ?_)
            refine lv_iinc (pc := 995) (v := nI (k + 1)) (lv' := [(14, .int (nI (k + 1))), (13, .int (nI 1)), (11, .long (allF sc ar w ez o)), (10, .int (nI (101 + (x % 30)))), (9, .int (nI (6 + (x % 30)))), (8, .int (nI ((sc 5) + (x % 30)))), (7, .int (nI ((sc 4) + (x % 30)))), (6, .int (nI ((sc 2) + (x % 30)))), (5, .int (nI ((sc 3) + (x % 30)))), (4, .int (nI 0)), (0, .ref (az 0)), (1, .ref (az 9)), (2, .ref (az 10)), (3, .int (nI x))]) S.1 S.2.1 dL_isRefused_995 hl (k := 1) rfl (by first | rfl | exact nI_add _ _) (by decide) rfl (fun ls hl => ?_)
            refine lv_goto (pc := 998) (tgt := 773) S.1 S.2.1 dL_isRefused_998 (by decide) ?_
            refine W.widen (k := 1125 + 40 * (k + 1)) (n := 6769 + 240 * (k + 1)) (by omega) (by omega) ?_
            have hi2 : (k + 1) + (n) = sc 3 := by omega
            have hl2 : lv_has ls 16 [(14, .int (nI (k + 1))), (13, .int (nI 1)), (11, .long (allF sc ar w ez o)), (10, .int (nI (101 + (x % 30)))), (9, .int (nI (6 + (x % 30)))), (8, .int (nI ((sc 5) + (x % 30)))), (7, .int (nI ((sc 4) + (x % 30)))), (6, .int (nI ((sc 2) + (x % 30)))), (5, .int (nI ((sc 3) + (x % 30)))), (4, .int (nI 0)), (0, .ref (az 0)), (1, .ref (az 9)), (2, .ref (az 10)), (3, .int (nI x))] := lv_sub hl [0, 1, 2, 3, 4, 5, 6, 7, 8, 9, 10, 11, 12, 13] rfl
            apply ih (k := k + 1) <;> assumption
          · skip
            refine hv_if_eq (pc := 943) (tgt := 988) (a := sc 5) S.1 S.2.1 (by omega) dL_isRefused_943 (by decide) (fun c9 => absurd c9 (by omega)) (fun c_148 => ?_)
            refine lv_aload_n (pc := 946) S.1 S.2.1 dL_isRefused_946 rfl (lv_at hl 12 rfl) ?_
            refine lv_iconst (pc := 947) (v := nI 4) S.1 S.2.1 dL_isRefused_947 (by decide) ?_
            refine lv_iload (pc := 948) S.1 S.2.1 dL_isRefused_948 (lv_at hl 0 rfl) ?_
            refine lv_imul (pc := 950) S.1 S.2.1 dL_isRefused_950 ?_
            refine hv_ti (y := nI (4 * k)) (pk_mul _ _) ?_
            refine lv_iconst (pc := 951) (v := nI 2) S.1 S.2.1 dL_isRefused_951 (by decide) ?_
            refine lv_iadd (pc := 952) S.1 S.2.1 dL_isRefused_952 ?_
            refine hv_ti (y := nI ((4 * k) + 2)) (nI_add _ _) ?_
            refine hv_iald (pc := 953) S hK hH 1 (hY.a1) rfl (vp_in_nI (show (4 * k) + 2 < 48 by omega) (by omega)) dL_isRefused_953 ?_
            refine hv_ti (y := nI ((o 1) ((4 * k) + 2))) (hv_ld (by omega)) ?_
            refine hv_ti (y := nI (if ez 2 k = 0 then 0 else 1)) (by rw [hlc.2.1]) ?_
            by_cases he0 : ez 2 k = 0
            · skip
              refine hv_ti (y := nI 0) (by rw [if_pos he0]) ?_
              refine hv_if_ne (pc := 954) (tgt := 970) (a := 0) S.1 S.2.1 (by omega) dL_isRefused_954 (by decide) (fun c9 => absurd c9 (by omega)) (fun c_149 => ?_)
              refine lv_aload_n (pc := 957) S.1 S.2.1 dL_isRefused_957 rfl (lv_at hl 12 rfl) ?_
              refine lv_iconst (pc := 958) (v := nI 4) S.1 S.2.1 dL_isRefused_958 (by decide) ?_
              refine lv_iload (pc := 959) S.1 S.2.1 dL_isRefused_959 (lv_at hl 0 rfl) ?_
              refine lv_imul (pc := 961) S.1 S.2.1 dL_isRefused_961 ?_
              refine hv_ti (y := nI (4 * k)) (pk_mul _ _) ?_
              refine lv_iconst (pc := 962) (v := nI 1) S.1 S.2.1 dL_isRefused_962 (by decide) ?_
              refine lv_iadd (pc := 963) S.1 S.2.1 dL_isRefused_963 ?_
              refine hv_ti (y := nI ((4 * k) + 1)) (nI_add _ _) ?_
              refine hv_iald (pc := 964) S hK hH 1 (hY.a1) rfl (vp_in_nI (show (4 * k) + 1 < 48 by omega) (by omega)) dL_isRefused_964 ?_
              refine hv_ti (y := nI ((o 1) ((4 * k) + 1))) (hv_ld (by omega)) ?_
              refine hv_ti (y := nI (ar 7 k)) (by rw [hlc.1]) ?_
              refine lv_bipush (pc := 965) (v := nI 12) S.1 S.2.1 dL_isRefused_965 (by decide) ?_
              by_cases h12 : ar 7 k < 12
              · skip
                refine hv_icmp_lt (pc := 967) (tgt := 988) (a := ar 7 k) (b := 12) S.1 S.2.1 (by omega) (by omega) dL_isRefused_967 (by decide) (fun c_150 => ?_) (fun c9 => absurd c9 (by omega))
                refine lv_iconst (pc := 988) (v := nI 1) S.1 S.2.1 dL_isRefused_988 (by decide) ?_
                refine lv_goto (pc := 989) (tgt := 993) S.1 S.2.1 dL_isRefused_989 (by decide) ?_
                refine lv_istore (pc := 993) (lv' := [(13, .int (nI 1)), (14, .int (nI k)), (11, .long (allF sc ar w ez o)), (10, .int (nI (101 + (x % 30)))), (9, .int (nI (6 + (x % 30)))), (8, .int (nI ((sc 5) + (x % 30)))), (7, .int (nI ((sc 4) + (x % 30)))), (6, .int (nI ((sc 2) + (x % 30)))), (5, .int (nI ((sc 3) + (x % 30)))), (4, .int (nI 0)), (0, .ref (az 0)), (1, .ref (az 9)), (2, .ref (az 10)), (3, .int (nI x))]) S.1 S.2.1 dL_isRefused_993 hl (by decide) rfl (fun ls hl => ?_)
                refine lv_iinc (pc := 995) (v := nI (k + 1)) (lv' := [(14, .int (nI (k + 1))), (13, .int (nI 1)), (11, .long (allF sc ar w ez o)), (10, .int (nI (101 + (x % 30)))), (9, .int (nI (6 + (x % 30)))), (8, .int (nI ((sc 5) + (x % 30)))), (7, .int (nI ((sc 4) + (x % 30)))), (6, .int (nI ((sc 2) + (x % 30)))), (5, .int (nI ((sc 3) + (x % 30)))), (4, .int (nI 0)), (0, .ref (az 0)), (1, .ref (az 9)), (2, .ref (az 10)), (3, .int (nI x))]) S.1 S.2.1 dL_isRefused_995 hl (k := 1) rfl (by first | rfl | exact nI_add _ _) (by decide) rfl (fun ls hl => ?_)
                refine lv_goto (pc := 998) (tgt := 773) S.1 S.2.1 dL_isRefused_998 (by decide) ?_
                refine W.widen (k := 1125 + 40 * (k + 1)) (n := 6769 + 240 * (k + 1)) (by omega) (by omega) ?_
                have hi2 : (k + 1) + (n) = sc 3 := by omega
                have hl2 : lv_has ls 16 [(14, .int (nI (k + 1))), (13, .int (nI 1)), (11, .long (allF sc ar w ez o)), (10, .int (nI (101 + (x % 30)))), (9, .int (nI (6 + (x % 30)))), (8, .int (nI ((sc 5) + (x % 30)))), (7, .int (nI ((sc 4) + (x % 30)))), (6, .int (nI ((sc 2) + (x % 30)))), (5, .int (nI ((sc 3) + (x % 30)))), (4, .int (nI 0)), (0, .ref (az 0)), (1, .ref (az 9)), (2, .ref (az 10)), (3, .int (nI x))] := lv_sub hl [0, 1, 2, 3, 4, 5, 6, 7, 8, 9, 10, 11, 12, 13] rfl
                apply ih (k := k + 1) <;> assumption
              · skip
                refine hv_icmp_lt (pc := 967) (tgt := 988) (a := ar 7 k) (b := 12) S.1 S.2.1 (by omega) (by omega) dL_isRefused_967 (by decide) (fun c9 => absurd c9 (by omega)) (fun c_151 => ?_)
                refine lv_aload_n (pc := 970) S.1 S.2.1 dL_isRefused_970 rfl (lv_at hl 10 rfl) ?_
                refine lv_iconst (pc := 971) (v := nI 4) S.1 S.2.1 dL_isRefused_971 (by decide) ?_
                refine lv_iload (pc := 972) S.1 S.2.1 dL_isRefused_972 (lv_at hl 0 rfl) ?_
                refine lv_iload_n (pc := 974) S.1 S.2.1 dL_isRefused_974 rfl (lv_at hl 13 rfl) ?_
                refine lv_aload_n (pc := 975) S.1 S.2.1 dL_isRefused_975 rfl (lv_at hl 11 rfl) ?_
                refine lv_iconst (pc := 976) (v := nI 3) S.1 S.2.1 dL_isRefused_976 (by decide) ?_
                refine hv_iald (pc := 977) S hK hH 1 (hY.a0) rfl (vp_in_nI (show 3 < 6 by omega) (by omega)) dL_isRefused_977 ?_
                refine hv_ti (y := nI ((o 0) 3)) (hv_ld (by omega)) ?_
                refine hv_ti (y := nI (sc 5)) (by rw [hm.2.2.2.1]) ?_
                refine lv_irem (pc := 978) S.1 S.2.1 dL_isRefused_978 (fun h9 => hh0 (jI_inj (show nI (sc 5) = nI 0 from h9.trans nI_0.symm) (by omega) (by omega))) ?_
                refine hv_ti (y := nI (x % (sc 5))) (pk_rem (by omega) (by omega) (by omega)) ?_
                refine lv_iconst (pc := 979) (v := nI 0) S.1 S.2.1 dL_isRefused_979 (by decide) ?_
                refine hv_call (pc := 980) (vx_runSW (As := [.ref (az 0), .int (nI 4), .int (nI k), .int (nI (x % (sc 5))), .int (nI 0)]) (rest := []) S (ax_cycle_2 l hfl D cA ga φ H.size az tn tk tm tg sc ar w ez o o (nI k) (nI (x % (sc 5))) (nI 0) hY hI hT h200 (cycleX_2 hk (by omega) (Nat.mod_lt _ (by omega)) (by omega) (Or.inr (Or.inr (by omega))))) (vx_cwSW 5 S.2.2.2.2 (gSW tw_261 tw_262 tw_0 tw_263) rfl rfl rfl (by decide +kernel) ⟨Nat.le_of_ble_eq_true rfl, Nat.le_of_ble_eq_true rfl⟩) (pre0_S hH hK hX hS hA) rfl rfl hl.1 rfl (lv_room (Nat.le_of_ble_eq_true rfl)) dL_isRefused_980 ⟨Nat.le_trans (show _ ≤ 2600 by omega) (Nat.le_of_ble_eq_true rfl), Nat.le_trans (show _ ≤ 17000 by omega) (Nat.le_of_ble_eq_true rfl)⟩) hS (af_le hH hS hA) (fun v_152 φ_153 H locs hw_v_152 hH hS => ?_)
                obtain ⟨rfl, hqv_152⟩ := hw_v_152
                rw [hqv_152] at hH
                refine lv_ldc (pc := 983) (v := (-16830000 : Int32)) S.1 S.2.1 S.2.2.2.1 (S.2.2.2.2 _ tw_887) dL_isRefused_983 ?_
                refine lv_icmp_ne (pc := 985) (tgt := 992) S.1 S.2.1 dL_isRefused_985 (by decide) (fun c9 => absurd c9 (fun h9 => h9 rfl)) (fun c_154 => ?_)
                refine lv_iconst (pc := 988) (v := nI 1) S.1 S.2.1 dL_isRefused_988 (by decide) ?_
                refine lv_goto (pc := 989) (tgt := 993) S.1 S.2.1 dL_isRefused_989 (by decide) ?_
                refine lv_istore (pc := 993) (lv' := [(13, .int (nI 1)), (14, .int (nI k)), (11, .long (allF sc ar w ez o)), (10, .int (nI (101 + (x % 30)))), (9, .int (nI (6 + (x % 30)))), (8, .int (nI ((sc 5) + (x % 30)))), (7, .int (nI ((sc 4) + (x % 30)))), (6, .int (nI ((sc 2) + (x % 30)))), (5, .int (nI ((sc 3) + (x % 30)))), (4, .int (nI 0)), (0, .ref (az 0)), (1, .ref (az 9)), (2, .ref (az 10)), (3, .int (nI x))]) S.1 S.2.1 dL_isRefused_993 hl (by decide) rfl (fun ls hl => ?_)
                refine lv_iinc (pc := 995) (v := nI (k + 1)) (lv' := [(14, .int (nI (k + 1))), (13, .int (nI 1)), (11, .long (allF sc ar w ez o)), (10, .int (nI (101 + (x % 30)))), (9, .int (nI (6 + (x % 30)))), (8, .int (nI ((sc 5) + (x % 30)))), (7, .int (nI ((sc 4) + (x % 30)))), (6, .int (nI ((sc 2) + (x % 30)))), (5, .int (nI ((sc 3) + (x % 30)))), (4, .int (nI 0)), (0, .ref (az 0)), (1, .ref (az 9)), (2, .ref (az 10)), (3, .int (nI x))]) S.1 S.2.1 dL_isRefused_995 hl (k := 1) rfl (by first | rfl | exact nI_add _ _) (by decide) rfl (fun ls hl => ?_)
                refine lv_goto (pc := 998) (tgt := 773) S.1 S.2.1 dL_isRefused_998 (by decide) ?_
                refine W.widen (k := 1125 + 40 * (k + 1)) (n := 6769 + 240 * (k + 1)) (by omega) (by omega) ?_
                have hi2 : (k + 1) + (n) = sc 3 := by omega
                have hl2 : lv_has ls 16 [(14, .int (nI (k + 1))), (13, .int (nI 1)), (11, .long (allF sc ar w ez o)), (10, .int (nI (101 + (x % 30)))), (9, .int (nI (6 + (x % 30)))), (8, .int (nI ((sc 5) + (x % 30)))), (7, .int (nI ((sc 4) + (x % 30)))), (6, .int (nI ((sc 2) + (x % 30)))), (5, .int (nI ((sc 3) + (x % 30)))), (4, .int (nI 0)), (0, .ref (az 0)), (1, .ref (az 9)), (2, .ref (az 10)), (3, .int (nI x))] := lv_sub hl [0, 1, 2, 3, 4, 5, 6, 7, 8, 9, 10, 11, 12, 13] rfl
                apply ih (k := k + 1) <;> assumption
            · skip
              refine hv_ti (y := nI 1) (by rw [if_neg he0]) ?_
              refine hv_if_ne (pc := 954) (tgt := 970) (a := 1) S.1 S.2.1 (by omega) dL_isRefused_954 (by decide) (fun c_155 => ?_) (fun c9 => absurd c9 (by omega))
              refine lv_aload_n (pc := 970) S.1 S.2.1 dL_isRefused_970 rfl (lv_at hl 10 rfl) ?_
              refine lv_iconst (pc := 971) (v := nI 4) S.1 S.2.1 dL_isRefused_971 (by decide) ?_
              refine lv_iload (pc := 972) S.1 S.2.1 dL_isRefused_972 (lv_at hl 0 rfl) ?_
              refine lv_iload_n (pc := 974) S.1 S.2.1 dL_isRefused_974 rfl (lv_at hl 13 rfl) ?_
              refine lv_aload_n (pc := 975) S.1 S.2.1 dL_isRefused_975 rfl (lv_at hl 11 rfl) ?_
              refine lv_iconst (pc := 976) (v := nI 3) S.1 S.2.1 dL_isRefused_976 (by decide) ?_
              refine hv_iald (pc := 977) S hK hH 1 (hY.a0) rfl (vp_in_nI (show 3 < 6 by omega) (by omega)) dL_isRefused_977 ?_
              refine hv_ti (y := nI ((o 0) 3)) (hv_ld (by omega)) ?_
              refine hv_ti (y := nI (sc 5)) (by rw [hm.2.2.2.1]) ?_
              refine lv_irem (pc := 978) S.1 S.2.1 dL_isRefused_978 (fun h9 => hh0 (jI_inj (show nI (sc 5) = nI 0 from h9.trans nI_0.symm) (by omega) (by omega))) ?_
              refine hv_ti (y := nI (x % (sc 5))) (pk_rem (by omega) (by omega) (by omega)) ?_
              refine lv_iconst (pc := 979) (v := nI 0) S.1 S.2.1 dL_isRefused_979 (by decide) ?_
              refine hv_call (pc := 980) (vx_runSW (As := [.ref (az 0), .int (nI 4), .int (nI k), .int (nI (x % (sc 5))), .int (nI 0)]) (rest := []) S (ax_cycle_2 l hfl D cA ga φ H.size az tn tk tm tg sc ar w ez o o (nI k) (nI (x % (sc 5))) (nI 0) hY hI hT h200 (cycleX_2 hk (by omega) (Nat.mod_lt _ (by omega)) (by omega) (Or.inr (Or.inl he0)))) (vx_cwSW 5 S.2.2.2.2 (gSW tw_261 tw_262 tw_0 tw_263) rfl rfl rfl (by decide +kernel) ⟨Nat.le_of_ble_eq_true rfl, Nat.le_of_ble_eq_true rfl⟩) (pre0_S hH hK hX hS hA) rfl rfl hl.1 rfl (lv_room (Nat.le_of_ble_eq_true rfl)) dL_isRefused_980 ⟨Nat.le_trans (show _ ≤ 2600 by omega) (Nat.le_of_ble_eq_true rfl), Nat.le_trans (show _ ≤ 17000 by omega) (Nat.le_of_ble_eq_true rfl)⟩) hS (af_le hH hS hA) (fun v_156 φ_157 H locs hw_v_156 hH hS => ?_)
              obtain ⟨rfl, hqv_156⟩ := hw_v_156
              rw [hqv_156] at hH
              refine lv_ldc (pc := 983) (v := (-16830000 : Int32)) S.1 S.2.1 S.2.2.2.1 (S.2.2.2.2 _ tw_887) dL_isRefused_983 ?_
              refine lv_icmp_ne (pc := 985) (tgt := 992) S.1 S.2.1 dL_isRefused_985 (by decide) (fun c9 => absurd c9 (fun h9 => h9 rfl)) (fun c_158 => ?_)
              refine lv_iconst (pc := 988) (v := nI 1) S.1 S.2.1 dL_isRefused_988 (by decide) ?_
              refine lv_goto (pc := 989) (tgt := 993) S.1 S.2.1 dL_isRefused_989 (by decide) ?_
              refine lv_istore (pc := 993) (lv' := [(13, .int (nI 1)), (14, .int (nI k)), (11, .long (allF sc ar w ez o)), (10, .int (nI (101 + (x % 30)))), (9, .int (nI (6 + (x % 30)))), (8, .int (nI ((sc 5) + (x % 30)))), (7, .int (nI ((sc 4) + (x % 30)))), (6, .int (nI ((sc 2) + (x % 30)))), (5, .int (nI ((sc 3) + (x % 30)))), (4, .int (nI 0)), (0, .ref (az 0)), (1, .ref (az 9)), (2, .ref (az 10)), (3, .int (nI x))]) S.1 S.2.1 dL_isRefused_993 hl (by decide) rfl (fun ls hl => ?_)
              refine lv_iinc (pc := 995) (v := nI (k + 1)) (lv' := [(14, .int (nI (k + 1))), (13, .int (nI 1)), (11, .long (allF sc ar w ez o)), (10, .int (nI (101 + (x % 30)))), (9, .int (nI (6 + (x % 30)))), (8, .int (nI ((sc 5) + (x % 30)))), (7, .int (nI ((sc 4) + (x % 30)))), (6, .int (nI ((sc 2) + (x % 30)))), (5, .int (nI ((sc 3) + (x % 30)))), (4, .int (nI 0)), (0, .ref (az 0)), (1, .ref (az 9)), (2, .ref (az 10)), (3, .int (nI x))]) S.1 S.2.1 dL_isRefused_995 hl (k := 1) rfl (by first | rfl | exact nI_add _ _) (by decide) rfl (fun ls hl => ?_)
              refine lv_goto (pc := 998) (tgt := 773) S.1 S.2.1 dL_isRefused_998 (by decide) ?_
              refine W.widen (k := 1125 + 40 * (k + 1)) (n := 6769 + 240 * (k + 1)) (by omega) (by omega) ?_
              have hi2 : (k + 1) + (n) = sc 3 := by omega
              have hl2 : lv_has ls 16 [(14, .int (nI (k + 1))), (13, .int (nI 1)), (11, .long (allF sc ar w ez o)), (10, .int (nI (101 + (x % 30)))), (9, .int (nI (6 + (x % 30)))), (8, .int (nI ((sc 5) + (x % 30)))), (7, .int (nI ((sc 4) + (x % 30)))), (6, .int (nI ((sc 2) + (x % 30)))), (5, .int (nI ((sc 3) + (x % 30)))), (4, .int (nI 0)), (0, .ref (az 0)), (1, .ref (az 9)), (2, .ref (az 10)), (3, .int (nI x))] := lv_sub hl [0, 1, 2, 3, 4, 5, 6, 7, 8, 9, 10, 11, 12, 13] rfl
              apply ih (k := k + 1) <;> assumption
    | succ n ih =>
      refine lv_iload (pc := 649) S.1 S.2.1 dL_isRefused_649 (lv_at hl 0 rfl) ?_
      refine lv_aload_n (pc := 651) S.1 S.2.1 dL_isRefused_651 rfl (lv_at hl 11 rfl) ?_
      refine lv_iconst (pc := 652) (v := nI 0) S.1 S.2.1 dL_isRefused_652 (by decide) ?_
      refine hv_iald (pc := 653) S hK hH 1 (hY.a0) rfl (vp_in_nI (show 0 < 6 by omega) (by omega)) dL_isRefused_653 ?_
      refine hv_ti (y := nI ((o 0) 0)) (hv_ld (by omega)) ?_
      refine hv_ti (y := nI (sc 2)) (by rw [hm.1]) ?_
      refine hv_icmp_ge (pc := 654) (tgt := 770) (a := k) (b := sc 2) S.1 S.2.1 (by omega) (by omega) dL_isRefused_654 (by decide) (fun c9 => absurd c9 (by omega)) (fun c_159 => ?_)
      refine lv_iload (pc := 657) S.1 S.2.1 dL_isRefused_657 (lv_at hl 1 rfl) ?_
      refine hv_if_eq (pc := 659) (tgt := 770) (a := 1) S.1 S.2.1 (by omega) dL_isRefused_659 (by decide) (fun c9 => absurd c9 (by omega)) (fun c_160 => ?_)
      have hk : k < sc 2 := by omega
      have hg5 := (hI.l2 k).2
      refine lv_aload_n (pc := 662) S.1 S.2.1 dL_isRefused_662 rfl (lv_at hl 10 rfl) ?_
      refine lv_iload (pc := 663) S.1 S.2.1 dL_isRefused_663 (lv_at hl 0 rfl) ?_
      refine hv_call (pc := 665) (va_runV (As := [.int (nI k)]) (rest := []) S (ys_grams l hfl D cA ga φ H.size az tn tk tm tg sc ar w ez o o k hY hI hT hk) (cwV 1 S.2.2.2.2 (gV tw_247 tw_248 tw_249 tw_1 tw_250) rfl rfl rfl (by decide +kernel) ⟨Nat.le_of_ble_eq_true rfl, Nat.le_of_ble_eq_true rfl⟩) (pre0_V hH hK hX hS hA (ycv hH hK hY)) rfl rfl hl.1 rfl (lv_room (Nat.le_of_ble_eq_true rfl)) dL_isRefused_665 ⟨Nat.le_trans (show _ ≤ 2600 by omega) (Nat.le_of_ble_eq_true rfl), Nat.le_trans (show _ ≤ 17000 by omega) (Nat.le_of_ble_eq_true rfl)⟩) hS (af_le hH hS hA) (fun v_161 φ_162 H locs hw_v_161 hH hS => ?_)
      obtain ⟨rfl, hqv_161⟩ := hw_v_161
      rw [hqv_161] at hH
      refine lv_istore (pc := 668) (lv' := [(15, .int (nI (ar 2 k))), (14, .int (nI k)), (13, .int (nI 1)), (11, .long (allF sc ar w ez o)), (10, .int (nI (101 + (x % 30)))), (9, .int (nI (6 + (x % 30)))), (8, .int (nI ((sc 5) + (x % 30)))), (7, .int (nI ((sc 4) + (x % 30)))), (6, .int (nI ((sc 2) + (x % 30)))), (5, .int (nI ((sc 3) + (x % 30)))), (4, .int (nI 0)), (0, .ref (az 0)), (1, .ref (az 9)), (2, .ref (az 10)), (3, .int (nI x))]) S.1 S.2.1 dL_isRefused_668 hl (by decide) rfl (fun ls hl => ?_)
      refine lv_aload_n (pc := 670) S.1 S.2.1 dL_isRefused_670 rfl (lv_at hl 11 rfl) ?_
      refine lv_iconst (pc := 671) (v := nI 2) S.1 S.2.1 dL_isRefused_671 (by decide) ?_
      refine lv_iload (pc := 672) S.1 S.2.1 dL_isRefused_672 (lv_at hl 1 rfl) ?_
      refine lv_iload (pc := 674) S.1 S.2.1 dL_isRefused_674 (lv_at hl 10 rfl) ?_
      refine hv_if_eq (pc := 676) (tgt := 689) (a := 0) S.1 S.2.1 (by omega) dL_isRefused_676 (by decide) (fun c_163 => ?_) (fun c9 => absurd c9 (by omega))
      refine lv_sipush (pc := 689) (v := nI 501) S.1 S.2.1 dL_isRefused_689 (by decide) ?_
      refine lv_iconst (pc := 692) (v := nI 0) S.1 S.2.1 dL_isRefused_692 (by decide) ?_
      refine hv_call (pc := 693) (vx_runSW (As := [.ref (az 0), .int (nI 2), .int (nI k), .int (nI 501), .int (nI 0)]) (rest := []) S (ax_cone_1 l hfl D cA ga φ H.size az tn tk tm tg sc ar w ez o o (nI k) (nI 501) (nI 0) hY hI hT h200 (coneX_1 hk (by omega) ((by decide)))) (vx_cwSW 5 S.2.2.2.2 (gSW tw_261 tw_262 tw_0 tw_263) rfl rfl rfl (by decide +kernel) ⟨Nat.le_of_ble_eq_true rfl, Nat.le_of_ble_eq_true rfl⟩) (pre0_S hH hK hX hS hA) rfl rfl hl.1 rfl (lv_room (Nat.le_of_ble_eq_true rfl)) dL_isRefused_693 ⟨Nat.le_trans (show _ ≤ 2600 by omega) (Nat.le_of_ble_eq_true rfl), Nat.le_trans (show _ ≤ 17000 by omega) (Nat.le_of_ble_eq_true rfl)⟩) hS (af_le hH hS hA) (fun v_164 φ_165 H locs hw_v_164 hH hS => ?_)
      obtain ⟨rfl, hqv_164⟩ := hw_v_164
      rw [hqv_164] at hH
      refine lv_ldc (pc := 696) (v := (-16820000 : Int32)) S.1 S.2.1 S.2.2.2.1 (S.2.2.2.2 _ tw_886) dL_isRefused_696 ?_
      refine lv_icmp_ne (pc := 698) (tgt := 761) S.1 S.2.1 dL_isRefused_698 (by decide) (fun c9 => absurd c9 (fun h9 => h9 rfl)) (fun c_166 => ?_)
      refine lv_aload_n (pc := 701) S.1 S.2.1 dL_isRefused_701 rfl (lv_at hl 11 rfl) ?_
      refine lv_iconst (pc := 702) (v := nI 2) S.1 S.2.1 dL_isRefused_702 (by decide) ?_
      refine lv_iload (pc := 703) S.1 S.2.1 dL_isRefused_703 (lv_at hl 1 rfl) ?_
      refine lv_bipush (pc := 705) (v := nI 10) S.1 S.2.1 dL_isRefused_705 (by decide) ?_
      refine lv_iload (pc := 707) S.1 S.2.1 dL_isRefused_707 (lv_at hl 5 rfl) ?_
      refine hv_call (pc := 709) (vx_runSW (As := [.ref (az 0), .int (nI 2), .int (nI k), .int (nI 10), .int (nI (6 + (x % 30)))]) (rest := []) S (ax_cone_1 l hfl D cA ga φ H.size az tn tk tm tg sc ar w ez o o (nI k) (nI 10) (nI (6 + (x % 30))) hY hI hT h200 (coneX_1t hk (by omega) hsix5)) (vx_cwSW 5 S.2.2.2.2 (gSW tw_261 tw_262 tw_0 tw_263) rfl rfl rfl (by decide +kernel) ⟨Nat.le_of_ble_eq_true rfl, Nat.le_of_ble_eq_true rfl⟩) (pre0_S hH hK hX hS hA) rfl rfl hl.1 rfl (lv_room (Nat.le_of_ble_eq_true rfl)) dL_isRefused_709 ⟨Nat.le_trans (show _ ≤ 2600 by omega) (Nat.le_of_ble_eq_true rfl), Nat.le_trans (show _ ≤ 17000 by omega) (Nat.le_of_ble_eq_true rfl)⟩) hS (af_le hH hS hA) (fun v_167 φ_168 H locs hw_v_167 hH hS => ?_)
      obtain ⟨rfl, hqv_167⟩ := hw_v_167
      rw [hqv_167] at hH
      refine lv_ldc (pc := 712) (v := (-16820000 : Int32)) S.1 S.2.1 S.2.2.2.1 (S.2.2.2.2 _ tw_886) dL_isRefused_712 ?_
      refine lv_icmp_ne (pc := 714) (tgt := 761) S.1 S.2.1 dL_isRefused_714 (by decide) (fun c9 => absurd c9 (fun h9 => h9 rfl)) (fun c_169 => ?_)
      refine lv_iload (pc := 717) S.1 S.2.1 dL_isRefused_717 (lv_at hl 0 rfl) ?_
      refine lv_sipush (pc := 719) (v := nI 500) S.1 S.2.1 dL_isRefused_719 (by decide) ?_
      by_cases hg500 : 500 ≤ ar 2 k
      · skip
        refine hv_icmp_ge (pc := 722) (tgt := 757) (a := ar 2 k) (b := 500) S.1 S.2.1 (by omega) (by omega) dL_isRefused_722 (by decide) (fun c_170 => ?_) (fun c9 => absurd c9 (by omega))
        refine lv_iconst (pc := 757) (v := nI 1) S.1 S.2.1 dL_isRefused_757 (by decide) ?_
        refine lv_goto (pc := 758) (tgt := 762) S.1 S.2.1 dL_isRefused_758 (by decide) ?_
        refine lv_istore (pc := 762) (lv' := [(13, .int (nI 1)), (15, .int (nI (ar 2 k))), (14, .int (nI k)), (11, .long (allF sc ar w ez o)), (10, .int (nI (101 + (x % 30)))), (9, .int (nI (6 + (x % 30)))), (8, .int (nI ((sc 5) + (x % 30)))), (7, .int (nI ((sc 4) + (x % 30)))), (6, .int (nI ((sc 2) + (x % 30)))), (5, .int (nI ((sc 3) + (x % 30)))), (4, .int (nI 0)), (0, .ref (az 0)), (1, .ref (az 9)), (2, .ref (az 10)), (3, .int (nI x))]) S.1 S.2.1 dL_isRefused_762 hl (by decide) rfl (fun ls hl => ?_)
        refine lv_iinc (pc := 764) (v := nI (k + 1)) (lv' := [(14, .int (nI (k + 1))), (13, .int (nI 1)), (15, .int (nI (ar 2 k))), (11, .long (allF sc ar w ez o)), (10, .int (nI (101 + (x % 30)))), (9, .int (nI (6 + (x % 30)))), (8, .int (nI ((sc 5) + (x % 30)))), (7, .int (nI ((sc 4) + (x % 30)))), (6, .int (nI ((sc 2) + (x % 30)))), (5, .int (nI ((sc 3) + (x % 30)))), (4, .int (nI 0)), (0, .ref (az 0)), (1, .ref (az 9)), (2, .ref (az 10)), (3, .int (nI x))]) S.1 S.2.1 dL_isRefused_764 hl (k := 2) rfl (by first | rfl | exact nI_add _ _) (by decide) rfl (fun ls hl => ?_)
        refine lv_goto (pc := 767) (tgt := 649) S.1 S.2.1 dL_isRefused_767 (by decide) ?_
        refine W.widen (k := 835 + 29 * (k + 1)) (n := 4999 + 177 * (k + 1)) (by omega) (by omega) ?_
        have hi2 : (k + 1) + (n) = sc 2 := by omega
        have hl2 : lv_has ls 16 [(14, .int (nI (k + 1))), (13, .int (nI 1)), (11, .long (allF sc ar w ez o)), (10, .int (nI (101 + (x % 30)))), (9, .int (nI (6 + (x % 30)))), (8, .int (nI ((sc 5) + (x % 30)))), (7, .int (nI ((sc 4) + (x % 30)))), (6, .int (nI ((sc 2) + (x % 30)))), (5, .int (nI ((sc 3) + (x % 30)))), (4, .int (nI 0)), (0, .ref (az 0)), (1, .ref (az 9)), (2, .ref (az 10)), (3, .int (nI x))] := lv_sub hl [0, 1, 3, 4, 5, 6, 7, 8, 9, 10, 11, 12, 13, 14] rfl
        apply ih (k := k + 1) <;> assumption
      · skip
        refine hv_icmp_ge (pc := 722) (tgt := 757) (a := ar 2 k) (b := 500) S.1 S.2.1 (by omega) (by omega) dL_isRefused_722 (by decide) (fun c9 => absurd c9 (by omega)) (fun c_171 => ?_)
        refine lv_aload_n (pc := 725) S.1 S.2.1 dL_isRefused_725 rfl (lv_at hl 11 rfl) ?_
        refine lv_iconst (pc := 726) (v := nI 2) S.1 S.2.1 dL_isRefused_726 (by decide) ?_
        refine lv_iload (pc := 727) S.1 S.2.1 dL_isRefused_727 (lv_at hl 1 rfl) ?_
        refine lv_iload (pc := 729) S.1 S.2.1 dL_isRefused_729 (lv_at hl 0 rfl) ?_
        refine lv_bipush (pc := 731) (v := nI 9) S.1 S.2.1 dL_isRefused_731 (by decide) ?_
        by_cases hg9 : 9 ≤ ar 2 k
        · skip
          refine hv_icmp_ge (pc := 733) (tgt := 741) (a := ar 2 k) (b := 9) S.1 S.2.1 (by omega) (by omega) dL_isRefused_733 (by decide) (fun c_172 => ?_) (fun c9 => absurd c9 (by omega))
          refine lv_iload (pc := 741) S.1 S.2.1 dL_isRefused_741 (lv_at hl 0 rfl) ?_
          refine lv_iconst (pc := 743) (v := nI 1) S.1 S.2.1 dL_isRefused_743 (by decide) ?_
          refine lv_iadd (pc := 744) S.1 S.2.1 dL_isRefused_744 ?_
          refine hv_ti (y := nI ((ar 2 k) + 1)) (nI_add _ _) ?_
          refine lv_iload_n (pc := 745) S.1 S.2.1 dL_isRefused_745 rfl (lv_at hl 14 rfl) ?_
          refine lv_bipush (pc := 746) (v := nI 6) S.1 S.2.1 dL_isRefused_746 (by decide) ?_
          refine lv_irem (pc := 748) S.1 S.2.1 dL_isRefused_748 (by decide) ?_
          refine hv_ti (y := nI (x % 6)) (pk_rem (by omega) (by omega) (by omega)) ?_
          refine hv_call (pc := 749) (vx_runSW (As := [.ref (az 0), .int (nI 2), .int (nI k), .int (nI ((ar 2 k) + 1)), .int (nI (x % 6))]) (rest := []) S (ax_cone_2 l hfl D cA ga φ H.size az tn tk tm tg sc ar w ez o o (nI k) (nI ((ar 2 k) + 1)) (nI (x % 6)) hY hI hT h200 (coneX_2 hk (by omega) (by omega) (by omega) (by omega) (Or.inl (by omega)))) (vx_cwSW 5 S.2.2.2.2 (gSW tw_261 tw_262 tw_0 tw_263) rfl rfl rfl (by decide +kernel) ⟨Nat.le_of_ble_eq_true rfl, Nat.le_of_ble_eq_true rfl⟩) (pre0_S hH hK hX hS hA) rfl rfl hl.1 rfl (lv_room (Nat.le_of_ble_eq_true rfl)) dL_isRefused_749 ⟨Nat.le_trans (show _ ≤ 2600 by omega) (Nat.le_of_ble_eq_true rfl), Nat.le_trans (show _ ≤ 17000 by omega) (Nat.le_of_ble_eq_true rfl)⟩) hS (af_le hH hS hA) (fun v_173 φ_174 H locs hw_v_173 hH hS => ?_)
          obtain ⟨rfl, hqv_173⟩ := hw_v_173
          rw [hqv_173] at hH
          refine lv_ldc (pc := 752) (v := (-16830000 : Int32)) S.1 S.2.1 S.2.2.2.1 (S.2.2.2.2 _ tw_887) dL_isRefused_752 ?_
          refine lv_icmp_ne (pc := 754) (tgt := 761) S.1 S.2.1 dL_isRefused_754 (by decide) (fun c9 => absurd c9 (fun h9 => h9 rfl)) (fun c_175 => ?_)
          refine lv_iconst (pc := 757) (v := nI 1) S.1 S.2.1 dL_isRefused_757 (by decide) ?_
          refine lv_goto (pc := 758) (tgt := 762) S.1 S.2.1 dL_isRefused_758 (by decide) ?_
          refine lv_istore (pc := 762) (lv' := [(13, .int (nI 1)), (15, .int (nI (ar 2 k))), (14, .int (nI k)), (11, .long (allF sc ar w ez o)), (10, .int (nI (101 + (x % 30)))), (9, .int (nI (6 + (x % 30)))), (8, .int (nI ((sc 5) + (x % 30)))), (7, .int (nI ((sc 4) + (x % 30)))), (6, .int (nI ((sc 2) + (x % 30)))), (5, .int (nI ((sc 3) + (x % 30)))), (4, .int (nI 0)), (0, .ref (az 0)), (1, .ref (az 9)), (2, .ref (az 10)), (3, .int (nI x))]) S.1 S.2.1 dL_isRefused_762 hl (by decide) rfl (fun ls hl => ?_)
          refine lv_iinc (pc := 764) (v := nI (k + 1)) (lv' := [(14, .int (nI (k + 1))), (13, .int (nI 1)), (15, .int (nI (ar 2 k))), (11, .long (allF sc ar w ez o)), (10, .int (nI (101 + (x % 30)))), (9, .int (nI (6 + (x % 30)))), (8, .int (nI ((sc 5) + (x % 30)))), (7, .int (nI ((sc 4) + (x % 30)))), (6, .int (nI ((sc 2) + (x % 30)))), (5, .int (nI ((sc 3) + (x % 30)))), (4, .int (nI 0)), (0, .ref (az 0)), (1, .ref (az 9)), (2, .ref (az 10)), (3, .int (nI x))]) S.1 S.2.1 dL_isRefused_764 hl (k := 2) rfl (by first | rfl | exact nI_add _ _) (by decide) rfl (fun ls hl => ?_)
          refine lv_goto (pc := 767) (tgt := 649) S.1 S.2.1 dL_isRefused_767 (by decide) ?_
          refine W.widen (k := 835 + 29 * (k + 1)) (n := 4999 + 177 * (k + 1)) (by omega) (by omega) ?_
          have hi2 : (k + 1) + (n) = sc 2 := by omega
          have hl2 : lv_has ls 16 [(14, .int (nI (k + 1))), (13, .int (nI 1)), (11, .long (allF sc ar w ez o)), (10, .int (nI (101 + (x % 30)))), (9, .int (nI (6 + (x % 30)))), (8, .int (nI ((sc 5) + (x % 30)))), (7, .int (nI ((sc 4) + (x % 30)))), (6, .int (nI ((sc 2) + (x % 30)))), (5, .int (nI ((sc 3) + (x % 30)))), (4, .int (nI 0)), (0, .ref (az 0)), (1, .ref (az 9)), (2, .ref (az 10)), (3, .int (nI x))] := lv_sub hl [0, 1, 3, 4, 5, 6, 7, 8, 9, 10, 11, 12, 13, 14] rfl
          apply ih (k := k + 1) <;> assumption
        · skip
          refine hv_icmp_ge (pc := 733) (tgt := 741) (a := ar 2 k) (b := 9) S.1 S.2.1 (by omega) (by omega) dL_isRefused_733 (by decide) (fun c9 => absurd c9 (by omega)) (fun c_176 => ?_)
          refine lv_bipush (pc := 736) (v := nI 10) S.1 S.2.1 dL_isRefused_736 (by decide) ?_
          refine lv_goto (pc := 738) (tgt := 745) S.1 S.2.1 dL_isRefused_738 (by decide) ?_
          refine lv_iload_n (pc := 745) S.1 S.2.1 dL_isRefused_745 rfl (lv_at hl 14 rfl) ?_
          refine lv_bipush (pc := 746) (v := nI 6) S.1 S.2.1 dL_isRefused_746 (by decide) ?_
          refine lv_irem (pc := 748) S.1 S.2.1 dL_isRefused_748 (by decide) ?_
          refine hv_ti (y := nI (x % 6)) (pk_rem (by omega) (by omega) (by omega)) ?_
          refine hv_call (pc := 749) (vx_runSW (As := [.ref (az 0), .int (nI 2), .int (nI k), .int (nI 10), .int (nI (x % 6))]) (rest := []) S (ax_cone_2 l hfl D cA ga φ H.size az tn tk tm tg sc ar w ez o o (nI k) (nI 10) (nI (x % 6)) hY hI hT h200 (coneX_2 hk (by omega) (by omega) (by omega) (by omega) (Or.inl (by omega)))) (vx_cwSW 5 S.2.2.2.2 (gSW tw_261 tw_262 tw_0 tw_263) rfl rfl rfl (by decide +kernel) ⟨Nat.le_of_ble_eq_true rfl, Nat.le_of_ble_eq_true rfl⟩) (pre0_S hH hK hX hS hA) rfl rfl hl.1 rfl (lv_room (Nat.le_of_ble_eq_true rfl)) dL_isRefused_749 ⟨Nat.le_trans (show _ ≤ 2600 by omega) (Nat.le_of_ble_eq_true rfl), Nat.le_trans (show _ ≤ 17000 by omega) (Nat.le_of_ble_eq_true rfl)⟩) hS (af_le hH hS hA) (fun v_177 φ_178 H locs hw_v_177 hH hS => ?_)
          obtain ⟨rfl, hqv_177⟩ := hw_v_177
          rw [hqv_177] at hH
          refine lv_ldc (pc := 752) (v := (-16830000 : Int32)) S.1 S.2.1 S.2.2.2.1 (S.2.2.2.2 _ tw_887) dL_isRefused_752 ?_
          refine lv_icmp_ne (pc := 754) (tgt := 761) S.1 S.2.1 dL_isRefused_754 (by decide) (fun c9 => absurd c9 (fun h9 => h9 rfl)) (fun c_179 => ?_)
          refine lv_iconst (pc := 757) (v := nI 1) S.1 S.2.1 dL_isRefused_757 (by decide) ?_
          refine lv_goto (pc := 758) (tgt := 762) S.1 S.2.1 dL_isRefused_758 (by decide) ?_
          refine lv_istore (pc := 762) (lv' := [(13, .int (nI 1)), (15, .int (nI (ar 2 k))), (14, .int (nI k)), (11, .long (allF sc ar w ez o)), (10, .int (nI (101 + (x % 30)))), (9, .int (nI (6 + (x % 30)))), (8, .int (nI ((sc 5) + (x % 30)))), (7, .int (nI ((sc 4) + (x % 30)))), (6, .int (nI ((sc 2) + (x % 30)))), (5, .int (nI ((sc 3) + (x % 30)))), (4, .int (nI 0)), (0, .ref (az 0)), (1, .ref (az 9)), (2, .ref (az 10)), (3, .int (nI x))]) S.1 S.2.1 dL_isRefused_762 hl (by decide) rfl (fun ls hl => ?_)
          refine lv_iinc (pc := 764) (v := nI (k + 1)) (lv' := [(14, .int (nI (k + 1))), (13, .int (nI 1)), (15, .int (nI (ar 2 k))), (11, .long (allF sc ar w ez o)), (10, .int (nI (101 + (x % 30)))), (9, .int (nI (6 + (x % 30)))), (8, .int (nI ((sc 5) + (x % 30)))), (7, .int (nI ((sc 4) + (x % 30)))), (6, .int (nI ((sc 2) + (x % 30)))), (5, .int (nI ((sc 3) + (x % 30)))), (4, .int (nI 0)), (0, .ref (az 0)), (1, .ref (az 9)), (2, .ref (az 10)), (3, .int (nI x))]) S.1 S.2.1 dL_isRefused_764 hl (k := 2) rfl (by first | rfl | exact nI_add _ _) (by decide) rfl (fun ls hl => ?_)
          refine lv_goto (pc := 767) (tgt := 649) S.1 S.2.1 dL_isRefused_767 (by decide) ?_
          refine W.widen (k := 835 + 29 * (k + 1)) (n := 4999 + 177 * (k + 1)) (by omega) (by omega) ?_
          have hi2 : (k + 1) + (n) = sc 2 := by omega
          have hl2 : lv_has ls 16 [(14, .int (nI (k + 1))), (13, .int (nI 1)), (11, .long (allF sc ar w ez o)), (10, .int (nI (101 + (x % 30)))), (9, .int (nI (6 + (x % 30)))), (8, .int (nI ((sc 5) + (x % 30)))), (7, .int (nI ((sc 4) + (x % 30)))), (6, .int (nI ((sc 2) + (x % 30)))), (5, .int (nI ((sc 3) + (x % 30)))), (4, .int (nI 0)), (0, .ref (az 0)), (1, .ref (az 9)), (2, .ref (az 10)), (3, .int (nI x))] := lv_sub hl [0, 1, 3, 4, 5, 6, 7, 8, 9, 10, 11, 12, 13, 14] rfl
          apply ih (k := k + 1) <;> assumption
  by_cases h7 : tk < 7
  · skip
    refine hv_icmp_lt (pc := 622) (tgt := 639) (a := tk) (b := 7) S.1 S.2.1 (by omega) (by omega) dL_isRefused_622 (by decide) (fun c_180 => ?_) (fun c9 => absurd c9 (by omega))
    refine W.widen (k := 835) (n := 4999) (by omega) (by omega) ?_
    exact h639 ls H locs hH hS (lv_sub hl [0, 1, 2, 3, 4, 5, 6, 7, 8, 9, 10, 11] rfl)
  · skip
    refine hv_icmp_lt (pc := 622) (tgt := 639) (a := tk) (b := 7) S.1 S.2.1 (by omega) (by omega) dL_isRefused_622 (by decide) (fun c9 => absurd c9 (by omega)) (fun c_181 => ?_)
    refine lv_aload_n (pc := 625) S.1 S.2.1 dL_isRefused_625 rfl (lv_at hl 8 rfl) ?_
    refine lv_iconst (pc := 626) (v := nI 0) S.1 S.2.1 dL_isRefused_626 (by decide) ?_
    refine lv_bipush (pc := 627) (v := nI 97) S.1 S.2.1 dL_isRefused_627 (by decide) ?_
    refine lv_iconst (pc := 629) (v := nI 0) S.1 S.2.1 dL_isRefused_629 (by decide) ?_
    refine lv_iconst (pc := 630) (v := nI 0) S.1 S.2.1 dL_isRefused_630 (by decide) ?_
    refine hv_call (pc := 631) (vx_runSW (As := [.ref (az 0), .int (nI 0), .int (nI 97), .int (nI 0), .int (nI 0)]) (rest := []) S (ax_letter_2 l hfl D cA ga φ H.size az tn tk tm tg sc ar w ez o o (nI 97) (nI 0) (nI 0) hY hI hT h200 (letterX_2 (by omega))) (vx_cwSW 5 S.2.2.2.2 (gSW tw_261 tw_262 tw_0 tw_263) rfl rfl rfl (by decide +kernel) ⟨Nat.le_of_ble_eq_true rfl, Nat.le_of_ble_eq_true rfl⟩) (pre0_S hH hK hX hS hA) rfl rfl hl.1 rfl (lv_room (Nat.le_of_ble_eq_true rfl)) dL_isRefused_631 ⟨Nat.le_trans (show _ ≤ 2600 by omega) (Nat.le_of_ble_eq_true rfl), Nat.le_trans (show _ ≤ 17000 by omega) (Nat.le_of_ble_eq_true rfl)⟩) hS (af_le hH hS hA) (fun v_182 φ_183 H locs hw_v_182 hH hS => ?_)
    obtain ⟨rfl, hqv_182⟩ := hw_v_182
    rw [hqv_182] at hH
    refine lv_ldc (pc := 634) (v := (-16830000 : Int32)) S.1 S.2.1 S.2.2.2.1 (S.2.2.2.2 _ tw_887) dL_isRefused_634 ?_
    refine lv_icmp_ne (pc := 636) (tgt := 643) S.1 S.2.1 dL_isRefused_636 (by decide) (fun c9 => absurd c9 (fun h9 => h9 rfl)) (fun c_184 => ?_)
    refine W.widen (k := 835) (n := 4999) (by omega) (by omega) ?_
    exact h639 ls H locs hH hS (lv_sub hl [0, 1, 2, 3, 4, 5, 6, 7, 8, 9, 10, 11] rfl)

