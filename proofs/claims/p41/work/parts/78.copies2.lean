set_option maxRecDepth 100000 in
set_option maxHeartbeats 400000 in
theorem e_X1_copyFrom {l : Launch} {G : zGm} {d n o q : Nat} {ly : zLy} {τ : zTu} {σ A B : zSg} {i : Nat} (htr : l.stackTraces = false) (hq : o + 95 ≤ q) (hA : zC ly o) (hB : zC ly q) (hd : 2 ≤ d) (hi : i < 16) : zEv l G d 0 0 (yX1_copyFrom, cX1_copyFrom, 2, none) [.ref (q + (ztk i + 1)), .ref (o + (ztk i + 1))] (fun x => n ≤ x) ly τ (zwr (zwr σ o 95 A) q 95 B) (zPl n ly τ (zwr (zwr σ o 95 A) q 95 (cC1 A i B)) none) := by
  refine zEv_of (ls := [some (.ref (q + (ztk i + 1))), some (.ref (o + (ztk i + 1))), none, none, none, none, none, none, none]) htr (by decide) (Nat.le_of_ble_eq_true rfl) rfl (fun X hO hE hN hRm hL hNm => ?_)
  have hO : zOk G X RX1 cX1_copyFrom 2 := hO
  refine zr_aload_0 hO dX1_copyFrom_0 ?_
  refine zr_aload_1 hO dX1_copyFrom_1 ?_
  refine zy_getfi (c := 1) hO hq (zC_p hA hi) (by have := hi; unfold ztk; omega) (by decide) (by decide) zf_X1_9 rfl dX1_copyFrom_2 ?_
  refine zg_putfi (c := 1) hO (zC_p hB hi) (by have := hi; unfold ztk; omega) (by decide) (by decide) zf_X1_9 rfl rfl dX1_copyFrom_5 ?_
  refine zr_aload_0 hO dX1_copyFrom_8 ?_
  refine zr_aload_1 hO dX1_copyFrom_9 ?_
  refine zV_pc (pc' := 10) rfl ?_
  refine zy_getfi (c := 1) hO hq (zC_p hA hi) (by have := hi; unfold ztk; omega) (by decide) (by decide) zf_X1_22 rfl dX1_copyFrom_10 ?_
  refine zg_putfi (c := 1) hO (zC_p hB hi) (by have := hi; unfold ztk; omega) (by decide) (by decide) zf_X1_22 rfl rfl dX1_copyFrom_13 ?_
  refine zr_aload_1 hO dX1_copyFrom_16 ?_
  refine zr_getfr (c := 1) hO (by decide) (by decide) zf_X1_15 (zC_p hA hi) rfl rfl dX1_copyFrom_17 ?_
  refine zr_iconst (v := 0) hO dX1_copyFrom_20 (by decide) ?_
  refine zr_aload_0 hO dX1_copyFrom_21 ?_
  refine zr_getfr (c := 1) hO (by decide) (by decide) zf_X1_15 (zC_p hB hi) rfl rfl dX1_copyFrom_22 ?_
  refine zV_pc (pc' := 25) rfl ?_
  refine zr_iconst (v := 0) hO dX1_copyFrom_25 (by decide) ?_
  refine zr_bipush (v := 16) hO dX1_copyFrom_26 (by decide) ?_
  refine zr_copy (D := d) hO (by omega) hRm zl_X1_25 (zC_c hA hi) (zC_c hB hi) (by decide) (by decide) (by decide) (by decide) (by decide) (Nat.le_of_ble_eq_true rfl) dX1_copyFrom_28 ?_
  rw [zwr_cp3 (f := (ztk i + 2)) (n := 16) σ hq (by have := hi; unfold ztk; omega) rfl]
  refine zr_aload_1 hO dX1_copyFrom_31 ?_
  refine zr_getfr (c := 1) hO (by decide) (by decide) zf_X1_19 (zC_p hA hi) rfl rfl dX1_copyFrom_32 ?_
  refine zr_iconst (v := 0) hO dX1_copyFrom_35 (by decide) ?_
  refine zr_aload_0 hO dX1_copyFrom_36 ?_
  refine zV_pc (pc' := 37) rfl ?_
  refine zr_getfr (c := 1) hO (by decide) (by decide) zf_X1_19 (zC_p hB hi) rfl rfl dX1_copyFrom_37 ?_
  refine zr_iconst (v := 0) hO dX1_copyFrom_40 (by decide) ?_
  refine zr_bipush (v := 16) hO dX1_copyFrom_41 (by decide) ?_
  refine zr_copy (D := d) hO (by omega) hRm zl_X1_25 (zC_n hA hi) (zC_n hB hi) (by decide) (by decide) (by decide) (by decide) (by decide) (Nat.le_of_ble_eq_true rfl) dX1_copyFrom_43 ?_
  rw [zwr_cp3 (f := (ztk i + 3)) (n := 16) σ hq (by have := hi; unfold ztk; omega) rfl]
  exact zr_return hO hE dX1_copyFrom_46 (fun z9 hz9 => ⟨rfl, hz9, rfl, rfl, rfl⟩)
set_option maxRecDepth 100000 in
set_option maxHeartbeats 400000 in
theorem e_X2_copyFrom {l : Launch} {G : zGm} {d n o q : Nat} {ly : zLy} {τ : zTu} {σ A B : zSg} (htr : l.stackTraces = false) (hq : o + 95 ≤ q) (hA : zC ly o) (hB : zC ly q) (hd : 2 ≤ d) : zEv l G d 0 0 (yX2_copyFrom, cX2_copyFrom, 2, none) [.ref (q + 1), .ref (o + 1)] (fun x => n ≤ x) ly τ (zwr (zwr σ o 95 A) q 95 B) (zPl n ly τ (zwr (zwr σ o 95 A) q 95 (cC2 A B)) none) := by
  refine zEv_of (ls := [some (.ref (q + 1)), some (.ref (o + 1)), none, none, none, none, none, none, none]) htr (by decide) (Nat.le_of_ble_eq_true rfl) rfl (fun X hO hE hN hRm hL hNm => ?_)
  have hO : zOk G X RX2 cX2_copyFrom 2 := hO
  refine zr_aload_0 hO dX2_copyFrom_0 ?_
  refine zr_aload_1 hO dX2_copyFrom_1 ?_
  refine zy_getfi (c := 2) hO hq (zC_1 hA) (by decide) (by decide) (by decide) zf_X2_9 rfl dX2_copyFrom_2 ?_
  refine zg_putfi (c := 2) hO (zC_1 hB) (by decide) (by decide) (by decide) zf_X2_9 rfl rfl dX2_copyFrom_5 ?_
  refine zr_aload_0 hO dX2_copyFrom_8 ?_
  refine zr_aload_1 hO dX2_copyFrom_9 ?_
  refine zV_pc (pc' := 10) rfl ?_
  refine zy_getfi (c := 2) hO hq (zC_1 hA) (by decide) (by decide) (by decide) zf_X2_15 rfl dX2_copyFrom_10 ?_
  refine zg_putfi (c := 2) hO (zC_1 hB) (by decide) (by decide) (by decide) zf_X2_15 rfl rfl dX2_copyFrom_13 ?_
  refine zr_aload_0 hO dX2_copyFrom_16 ?_
  refine zr_aload_1 hO dX2_copyFrom_17 ?_
  refine zy_getfi (c := 2) hO hq (zC_1 hA) (by decide) (by decide) (by decide) zf_X2_18 rfl dX2_copyFrom_18 ?_
  refine zg_putfi (c := 2) hO (zC_1 hB) (by decide) (by decide) (by decide) zf_X2_18 rfl rfl dX2_copyFrom_21 ?_
  refine zr_aload_0 hO dX2_copyFrom_24 ?_
  refine zV_pc (pc' := 25) rfl ?_
  refine zr_aload_1 hO dX2_copyFrom_25 ?_
  refine zy_getfi (c := 2) hO hq (zC_1 hA) (by decide) (by decide) (by decide) zf_X2_21 rfl dX2_copyFrom_26 ?_
  refine zg_putfi (c := 2) hO (zC_1 hB) (by decide) (by decide) (by decide) zf_X2_21 rfl rfl dX2_copyFrom_29 ?_
  refine zr_aload_0 hO dX2_copyFrom_32 ?_
  refine zr_aload_1 hO dX2_copyFrom_33 ?_
  refine zy_getfi (c := 2) hO hq (zC_1 hA) (by decide) (by decide) (by decide) zf_X2_24 rfl dX2_copyFrom_34 ?_
  refine zg_putfi (c := 2) hO (zC_1 hB) (by decide) (by decide) (by decide) zf_X2_24 rfl rfl dX2_copyFrom_37 ?_
  refine zV_pc (pc' := 40) rfl ?_
  refine zr_aload_1 hO dX2_copyFrom_40 ?_
  refine zr_getfr (c := 2) hO (by decide) (by decide) zf_X2_27 (zC_1 hA) rfl rfl dX2_copyFrom_41 ?_
  refine zr_iconst (v := 0) hO dX2_copyFrom_44 (by decide) ?_
  refine zr_aload_0 hO dX2_copyFrom_45 ?_
  refine zr_getfr (c := 2) hO (by decide) (by decide) zf_X2_27 (zC_1 hB) rfl rfl dX2_copyFrom_46 ?_
  refine zr_iconst (v := 0) hO dX2_copyFrom_49 (by decide) ?_
  refine zr_iconst (v := 4) hO dX2_copyFrom_50 (by decide) ?_
  refine zV_pc (pc' := 51) rfl ?_
  refine zr_copy (D := d) hO (by omega) hRm zl_X2_31 (zC_2 hA) (zC_2 hB) (by decide) (by decide) (by decide) (by decide) (by decide) (Nat.le_of_ble_eq_true rfl) dX2_copyFrom_51 ?_
  rw [zwr_cp3 (f := 2) (n := 4) σ hq (by decide) rfl]
  exact zr_return hO hE dX2_copyFrom_54 (fun z9 hz9 => ⟨rfl, hz9, rfl, rfl, rfl⟩)
set_option maxRecDepth 100000 in
set_option maxHeartbeats 400000 in
theorem e_X3_copyFrom {l : Launch} {G : zGm} {d n o q : Nat} {ly : zLy} {τ : zTu} {σ A B : zSg} {i : Nat} (htr : l.stackTraces = false) (hq : o + 95 ≤ q) (hA : zC ly o) (hB : zC ly q) (hd : 0 ≤ d) (hi : i < 16) : zEv l G d 0 0 (yX3_copyFrom, cX3_copyFrom, 2, none) [.ref (q + (ztk i + 4)), .ref (o + (ztk i + 4))] (fun x => n ≤ x) ly τ (zwr (zwr σ o 95 A) q 95 B) (zPl n ly τ (zwr (zwr σ o 95 A) q 95 (cC3 A i B)) none) := by
  refine zEv_of (ls := [some (.ref (q + (ztk i + 4))), some (.ref (o + (ztk i + 4))), none, none, none, none, none, none, none]) htr (by decide) (Nat.le_of_ble_eq_true rfl) rfl (fun X hO hE hN hRm hL hNm => ?_)
  have hO : zOk G X RX3 cX3_copyFrom 2 := hO
  refine zr_aload_0 hO dX3_copyFrom_0 ?_
  refine zr_aload_1 hO dX3_copyFrom_1 ?_
  refine zy_getfi (c := 3) hO hq (zC_y hA hi) (by have := hi; unfold ztk; omega) (by decide) (by decide) zf_X3_18 rfl dX3_copyFrom_2 ?_
  refine zg_putfi (c := 3) hO (zC_y hB hi) (by have := hi; unfold ztk; omega) (by decide) (by decide) zf_X3_18 rfl rfl dX3_copyFrom_5 ?_
  refine zr_aload_0 hO dX3_copyFrom_8 ?_
  refine zr_aload_1 hO dX3_copyFrom_9 ?_
  refine zV_pc (pc' := 10) rfl ?_
  refine zy_getfi (c := 3) hO hq (zC_y hA hi) (by have := hi; unfold ztk; omega) (by decide) (by decide) zf_X3_21 rfl dX3_copyFrom_10 ?_
  refine zg_putfi (c := 3) hO (zC_y hB hi) (by have := hi; unfold ztk; omega) (by decide) (by decide) zf_X3_21 rfl rfl dX3_copyFrom_13 ?_
  refine zr_aload_0 hO dX3_copyFrom_16 ?_
  refine zr_aload_1 hO dX3_copyFrom_17 ?_
  refine zy_getfi (c := 3) hO hq (zC_y hA hi) (by have := hi; unfold ztk; omega) (by decide) (by decide) zf_X3_24 rfl dX3_copyFrom_18 ?_
  refine zg_putfi (c := 3) hO (zC_y hB hi) (by have := hi; unfold ztk; omega) (by decide) (by decide) zf_X3_24 rfl rfl dX3_copyFrom_21 ?_
  refine zr_aload_0 hO dX3_copyFrom_24 ?_
  refine zV_pc (pc' := 25) rfl ?_
  refine zr_aload_1 hO dX3_copyFrom_25 ?_
  refine zy_getfi (c := 3) hO hq (zC_y hA hi) (by have := hi; unfold ztk; omega) (by decide) (by decide) zf_X3_9 rfl dX3_copyFrom_26 ?_
  refine zg_putfi (c := 3) hO (zC_y hB hi) (by have := hi; unfold ztk; omega) (by decide) (by decide) zf_X3_9 rfl rfl dX3_copyFrom_29 ?_
  refine zr_aload_0 hO dX3_copyFrom_32 ?_
  refine zr_aload_1 hO dX3_copyFrom_33 ?_
  refine zy_getfi (c := 3) hO hq (zC_y hA hi) (by have := hi; unfold ztk; omega) (by decide) (by decide) zf_X3_15 rfl dX3_copyFrom_34 ?_
  refine zg_putfi (c := 3) hO (zC_y hB hi) (by have := hi; unfold ztk; omega) (by decide) (by decide) zf_X3_15 rfl rfl dX3_copyFrom_37 ?_
  exact zr_return hO hE dX3_copyFrom_40 (fun z9 hz9 => ⟨rfl, hz9, rfl, rfl, rfl⟩)
set_option maxRecDepth 100000 in
set_option maxHeartbeats 400000 in
theorem e_X4_copyFrom {l : Launch} {G : zGm} {d n o q : Nat} {ly : zLy} {τ : zTu} {σ A B : zSg} {i : Nat} (htr : l.stackTraces = false) (hq : o + 95 ≤ q) (hA : zC ly o) (hB : zC ly q) (hd : 3 ≤ d) (hi : i < 16) : zEv l G d 0 0 (yX4_copyFrom, cX4_copyFrom, 2, none) [.ref (q + ztk i), .ref (o + ztk i)] (fun x => n ≤ x) ly τ (zwr (zwr σ o 95 A) q 95 B) (zPl n ly τ (zwr (zwr σ o 95 A) q 95 (cC4 A i B)) none) := by
  refine zEv_of (ls := [some (.ref (q + ztk i)), some (.ref (o + ztk i)), none, none, none, none, none, none, none]) htr (by decide) (Nat.le_of_ble_eq_true rfl) rfl (fun X hO hE hN hRm hL hNm => ?_)
  have hO : zOk G X RX4 cX4_copyFrom 2 := hO
  refine zr_aload_0 hO dX4_copyFrom_0 ?_
  refine zr_getfr (c := 4) hO (by decide) (by decide) zf_X4_12 (zC_t hB hi) rfl rfl dX4_copyFrom_1 ?_
  refine zr_aload_1 hO dX4_copyFrom_4 ?_
  refine zr_getfr (c := 4) hO (by decide) (by decide) zf_X4_12 (zC_t hA hi) rfl rfl dX4_copyFrom_5 ?_
  refine zr_V1 (D := d) hO hRm hL (by omega) (by decide) (c := 1) (by decide) (zC_p hB hi) rfl rfl (e_X1_copyFrom (d := d - 1) htr hq hA hB (by omega) hi) zl_X4_38 zi_X1_copyFrom zs_X1_copyFrom zc_X1_copyFrom zn_X1 zd_X1_copyFrom (Nat.le_of_ble_eq_true rfl) dX4_copyFrom_8 (by omega) (by omega) ?_
  refine zr_aload_0 hO dX4_copyFrom_11 ?_
  refine zV_pc (pc' := 12) rfl ?_
  refine zr_getfr (c := 4) hO (by decide) (by decide) zf_X4_21 (zC_t hB hi) rfl rfl dX4_copyFrom_12 ?_
  refine zr_aload_1 hO dX4_copyFrom_15 ?_
  refine zr_getfr (c := 4) hO (by decide) (by decide) zf_X4_21 (zC_t hA hi) rfl rfl dX4_copyFrom_16 ?_
  refine zr_V1 (D := d) hO hRm hL (by omega) (by decide) (c := 3) (by decide) (zC_y hB hi) rfl rfl (e_X3_copyFrom (d := d - 1) htr hq hA hB (by omega) hi) zl_X4_42 zi_X3_copyFrom zs_X3_copyFrom zc_X3_copyFrom zn_X3 zd_X3_copyFrom (Nat.le_of_ble_eq_true rfl) dX4_copyFrom_19 (by omega) (by omega) ?_
  refine zr_aload_0 hO dX4_copyFrom_22 ?_
  refine zr_aload_1 hO dX4_copyFrom_23 ?_
  refine zy_getfi (c := 4) hO hq (zC_t hA hi) (by have := hi; unfold ztk; omega) (by decide) (by decide) zf_X4_45 rfl dX4_copyFrom_24 ?_
  refine zV_pc (pc' := 27) rfl ?_
  refine zg_putfi (c := 4) hO (zC_t hB hi) (by have := hi; unfold ztk; omega) (by decide) (by decide) zf_X4_45 rfl rfl dX4_copyFrom_27 ?_
  refine zr_aload_0 hO dX4_copyFrom_30 ?_
  refine zr_aload_1 hO dX4_copyFrom_31 ?_
  refine zy_getfi (c := 4) hO hq (zC_t hA hi) (by have := hi; unfold ztk; omega) (by decide) (by decide) zf_X4_48 rfl dX4_copyFrom_32 ?_
  refine zg_putfi (c := 4) hO (zC_t hB hi) (by have := hi; unfold ztk; omega) (by decide) (by decide) zf_X4_48 rfl rfl dX4_copyFrom_35 ?_
  refine zr_aload_0 hO dX4_copyFrom_38 ?_
  refine zr_aload_1 hO dX4_copyFrom_39 ?_
  refine zV_pc (pc' := 40) rfl ?_
  refine zy_getfi (c := 4) hO hq (zC_t hA hi) (by have := hi; unfold ztk; omega) (by decide) (by decide) zf_X4_25 rfl dX4_copyFrom_40 ?_
  refine zg_putfi (c := 4) hO (zC_t hB hi) (by have := hi; unfold ztk; omega) (by decide) (by decide) zf_X4_25 rfl rfl dX4_copyFrom_43 ?_
  refine zr_aload_0 hO dX4_copyFrom_46 ?_
  refine zr_aload_1 hO dX4_copyFrom_47 ?_
  refine zy_getfi (c := 4) hO hq (zC_t hA hi) (by have := hi; unfold ztk; omega) (by decide) (by decide) zf_X4_51 rfl dX4_copyFrom_48 ?_
  refine zg_putfi (c := 4) hO (zC_t hB hi) (by have := hi; unfold ztk; omega) (by decide) (by decide) zf_X4_51 rfl rfl dX4_copyFrom_51 ?_
  refine zr_aload_0 hO dX4_copyFrom_54 ?_
  refine zV_pc (pc' := 55) rfl ?_
  refine zr_aload_1 hO dX4_copyFrom_55 ?_
  refine zy_getfi (c := 4) hO hq (zC_t hA hi) (by have := hi; unfold ztk; omega) (by decide) (by decide) zf_X4_54 rfl dX4_copyFrom_56 ?_
  refine zg_putfi (c := 4) hO (zC_t hB hi) (by have := hi; unfold ztk; omega) (by decide) (by decide) zf_X4_54 rfl rfl dX4_copyFrom_59 ?_
  refine zr_aload_0 hO dX4_copyFrom_62 ?_
  refine zr_aload_1 hO dX4_copyFrom_63 ?_
  refine zy_getfi (c := 4) hO hq (zC_t hA hi) (by have := hi; unfold ztk; omega) (by decide) (by decide) zf_X4_57 rfl dX4_copyFrom_64 ?_
  refine zg_putfi (c := 4) hO (zC_t hB hi) (by have := hi; unfold ztk; omega) (by decide) (by decide) zf_X4_57 rfl rfl dX4_copyFrom_67 ?_
  refine zV_pc (pc' := 70) rfl ?_
  refine zr_aload_0 hO dX4_copyFrom_70 ?_
  refine zr_aload_1 hO dX4_copyFrom_71 ?_
  refine zy_getfi (c := 4) hO hq (zC_t hA hi) (by have := hi; unfold ztk; omega) (by decide) (by decide) zf_X4_29 rfl dX4_copyFrom_72 ?_
  refine zg_putfi (c := 4) hO (zC_t hB hi) (by have := hi; unfold ztk; omega) (by decide) (by decide) zf_X4_29 rfl rfl dX4_copyFrom_75 ?_
  refine zr_aload_0 hO dX4_copyFrom_78 ?_
  refine zr_aload_1 hO dX4_copyFrom_79 ?_
  refine zy_getfi (c := 4) hO hq (zC_t hA hi) (by have := hi; unfold ztk; omega) (by decide) (by decide) zf_X4_60 rfl dX4_copyFrom_80 ?_
  refine zV_pc (pc' := 83) rfl ?_
  refine zg_putfi (c := 4) hO (zC_t hB hi) (by have := hi; unfold ztk; omega) (by decide) (by decide) zf_X4_60 rfl rfl dX4_copyFrom_83 ?_
  refine zr_aload_0 hO dX4_copyFrom_86 ?_
  refine zr_aload_1 hO dX4_copyFrom_87 ?_
  refine zy_getfi (c := 4) hO hq (zC_t hA hi) (by have := hi; unfold ztk; omega) (by decide) (by decide) zf_X4_63 rfl dX4_copyFrom_88 ?_
  refine zg_putfi (c := 4) hO (zC_t hB hi) (by have := hi; unfold ztk; omega) (by decide) (by decide) zf_X4_63 rfl rfl dX4_copyFrom_91 ?_
  refine zr_aload_0 hO dX4_copyFrom_94 ?_
  refine zr_aload_1 hO dX4_copyFrom_95 ?_
  refine zV_pc (pc' := 96) rfl ?_
  refine zy_getfi (c := 4) hO hq (zC_t hA hi) (by have := hi; unfold ztk; omega) (by decide) (by decide) zf_X4_66 rfl dX4_copyFrom_96 ?_
  refine zg_putfi (c := 4) hO (zC_t hB hi) (by have := hi; unfold ztk; omega) (by decide) (by decide) zf_X4_66 rfl rfl dX4_copyFrom_99 ?_
  refine zr_aload_0 hO dX4_copyFrom_102 ?_
  refine zr_aload_1 hO dX4_copyFrom_103 ?_
  refine zy_getfi (c := 4) hO hq (zC_t hA hi) (by have := hi; unfold ztk; omega) (by decide) (by decide) zf_X4_32 rfl dX4_copyFrom_104 ?_
  refine zg_putfi (c := 4) hO (zC_t hB hi) (by have := hi; unfold ztk; omega) (by decide) (by decide) zf_X4_32 rfl rfl dX4_copyFrom_107 ?_
  refine zr_aload_0 hO dX4_copyFrom_110 ?_
  refine zV_pc (pc' := 111) rfl ?_
  refine zr_aload_1 hO dX4_copyFrom_111 ?_
  refine zy_getfi (c := 4) hO hq (zC_t hA hi) (by have := hi; unfold ztk; omega) (by decide) (by decide) zf_X4_69 rfl dX4_copyFrom_112 ?_
  refine zg_putfi (c := 4) hO (zC_t hB hi) (by have := hi; unfold ztk; omega) (by decide) (by decide) zf_X4_69 rfl rfl dX4_copyFrom_115 ?_
  refine zr_aload_0 hO dX4_copyFrom_118 ?_
  refine zr_aload_1 hO dX4_copyFrom_119 ?_
  refine zy_getfi (c := 4) hO hq (zC_t hA hi) (by have := hi; unfold ztk; omega) (by decide) (by decide) zf_X4_72 rfl dX4_copyFrom_120 ?_
  refine zg_putfi (c := 4) hO (zC_t hB hi) (by have := hi; unfold ztk; omega) (by decide) (by decide) zf_X4_72 rfl rfl dX4_copyFrom_123 ?_
  exact zr_return hO hE dX4_copyFrom_126 (fun z9 hz9 => ⟨rfl, hz9, rfl, rfl, rfl⟩)
set_option maxRecDepth 100000 in
set_option maxHeartbeats 400000 in
theorem e_X5_copyFrom {l : Launch} {G : zGm} {d n o q : Nat} {ly : zLy} {τ : zTu} {σ A B : zSg} (htr : l.stackTraces = false) (hq : o + 95 ≤ q) (hA : zC ly o) (hB : zC ly q) (hd : 2 ≤ d) : zEv l G d 0 0 (yX5_copyFrom, cX5_copyFrom, 3, none) [.ref (q + 3), .ref (o + 3)] (fun x => n ≤ x) ly τ (zwr (zwr σ o 95 A) q 95 B) (zPl n ly τ (zwr (zwr σ o 95 A) q 95 (cC5 A B)) none) := by
  refine zEv_of (ls := [some (.ref (q + 3)), some (.ref (o + 3)), none, none, none, none, none, none, none]) htr (by decide) (Nat.le_of_ble_eq_true rfl) rfl (fun X hO hE hN hRm hL hNm => ?_)
  have hO : zOk G X RX5 cX5_copyFrom 3 := hO
  refine zr_aload_0 hO dX5_copyFrom_0 ?_
  refine zr_aload_1 hO dX5_copyFrom_1 ?_
  refine zy_getfi (c := 5) hO hq (zC_3 hA) (by decide) (by decide) (by decide) zf_X5_16 rfl dX5_copyFrom_2 ?_
  refine zg_putfi (c := 5) hO (zC_3 hB) (by decide) (by decide) (by decide) zf_X5_16 rfl rfl dX5_copyFrom_5 ?_
  refine zr_aload_0 hO dX5_copyFrom_8 ?_
  refine zr_aload_1 hO dX5_copyFrom_9 ?_
  refine zV_pc (pc' := 10) rfl ?_
  refine zy_getfi (c := 5) hO hq (zC_3 hA) (by decide) (by decide) (by decide) zf_X5_20 rfl dX5_copyFrom_10 ?_
  refine zg_putfi (c := 5) hO (zC_3 hB) (by decide) (by decide) (by decide) zf_X5_20 rfl rfl dX5_copyFrom_13 ?_
  refine zr_aload_0 hO dX5_copyFrom_16 ?_
  refine zr_aload_1 hO dX5_copyFrom_17 ?_
  refine zy_getfi (c := 5) hO hq (zC_3 hA) (by decide) (by decide) (by decide) zf_X5_23 rfl dX5_copyFrom_18 ?_
  refine zg_putfi (c := 5) hO (zC_3 hB) (by decide) (by decide) (by decide) zf_X5_23 rfl rfl dX5_copyFrom_21 ?_
  refine zr_iconst (v := 0) hO dX5_copyFrom_24 (by decide) ?_
  refine zr_istore_2 hO dX5_copyFrom_25 (by decide) rfl ?_
  rw [← nI_0]
  refine z_for (P := fun p s => zV G X 3 0 0 (fun x => n ≤ x) ly τ (zwr (zwr σ o 95 A) q 95 s) 26 [some (.ref (q + 3)), some (.ref (o + 3)), some (.int (nI p)), none, none, none, none, none, none] []) 3 (fun p s => mF_rc A (5 + p) 30 s) (fun _ _ => True) (zup (zup (zup B 3 0 (A 3 0)) 3 1 (A 3 1)) 3 2 (A 3 2)) trivial (fun _ _ _ _ => trivial) ?_ ?_
  · intro p s hp _ ih
    refine zr_iload_2 hO dX5_copyFrom_26 ?_
    refine zr_iconst (v := 3) hO dX5_copyFrom_27 (by decide) ?_
    refine zr_icmp_ge (tgt := 56) hO dX5_copyFrom_28 (by decide) (fun c => absurd (zlt_T (x := 3) (by decide) hp) c) (fun c9 => ?_)
    refine zr_aload_1 hO dX5_copyFrom_31 ?_
    refine zr_getfr (c := 5) hO (by decide) (by decide) zf_X5_11 (zC_3 hA) rfl rfl dX5_copyFrom_32 ?_
    refine zr_iload_2 hO dX5_copyFrom_35 ?_
    refine zr_aaldIN hO (zC_4 hA) hp (by decide) dX5_copyFrom_36 ?_
    refine zr_iconst (v := 0) hO dX5_copyFrom_37 (by decide) ?_
    refine zr_aload_0 hO dX5_copyFrom_38 ?_
    refine zV_pc (pc' := 39) rfl ?_
    refine zr_getfr (c := 5) hO (by decide) (by decide) zf_X5_11 (zC_3 hB) rfl rfl dX5_copyFrom_39 ?_
    refine zr_iload_2 hO dX5_copyFrom_42 ?_
    refine zr_aaldIN hO (zC_4 hB) hp (by decide) dX5_copyFrom_43 ?_
    refine zr_iconst (v := 0) hO dX5_copyFrom_44 (by decide) ?_
    refine zr_bipush (v := 30) hO dX5_copyFrom_45 (by decide) ?_
    refine zr_copy (D := d) hO (by omega) hRm zl_X5_26 (zC_ran hA hp) (zC_ran hB hp) (by decide) (by decide) (by decide) (by decide) (by decide) (Nat.le_of_ble_eq_true rfl) dX5_copyFrom_47 ?_
    rw [zwr_cp3 (f := (5 + p)) (n := 30) σ hq (by omega) rfl]
    refine zr_iinc_2 (v := 1) hO dX5_copyFrom_50 (by decide) (by decide) rfl ?_
    refine zr_goto (tgt := 26) hO dX5_copyFrom_53 (by decide) ?_
    rw [nI_1]
    exact ih
  · intro _
    refine zr_iload_2 hO dX5_copyFrom_26 ?_
    refine zr_iconst (v := 3) hO dX5_copyFrom_27 (by decide) ?_
    refine zr_icmp_ge (tgt := 56) hO dX5_copyFrom_28 (by decide) (fun c9 => ?_) (fun c => absurd c (zlt_F (x := 3) (by decide)))
    refine zV_d2 ?_
    exact zr_return hO hE dX5_copyFrom_56 (fun z9 hz9 => ⟨rfl, hz9, rfl, rfl, rfl⟩)
set_option maxRecDepth 100000 in
set_option maxHeartbeats 400000 in
theorem e_X0_copyFrom {l : Launch} {G : zGm} {d n o q : Nat} {ly : zLy} {τ : zTu} {σ A B : zSg} (htr : l.stackTraces = false) (hq : o + 95 ≤ q) (hA : zC ly o) (hB : zC ly q) (hd : 4 ≤ d) : zEv l G d 0 0 (yX0_copyFrom, cX0_copyFrom, 3, none) [.ref q, .ref o] (fun x => n ≤ x) ly τ (zwr (zwr σ o 95 A) q 95 B) (zPl n ly τ (zwr (zwr σ o 95 A) q 95 (cC0 A B)) none) := by
  refine zEv_of (ls := [some (.ref q), some (.ref o), none, none, none, none, none, none, none]) htr (by decide) (Nat.le_of_ble_eq_true rfl) rfl (fun X hO hE hN hRm hL hNm => ?_)
  have hO : zOk G X RX0 cX0_copyFrom 3 := hO
  refine zr_aload_0 hO dX0_copyFrom_0 ?_
  refine zr_getfr (c := 0) hO (by decide) (by decide) zf_X0_12 (zC_0 hB) rfl rfl dX0_copyFrom_1 ?_
  refine zr_aload_1 hO dX0_copyFrom_4 ?_
  refine zr_getfr (c := 0) hO (by decide) (by decide) zf_X0_12 (zC_0 hA) rfl rfl dX0_copyFrom_5 ?_
  refine zr_V1 (D := d) hO hRm hL (by omega) (by decide) (c := 2) (by decide) (zC_1 hB) rfl rfl (e_X2_copyFrom (d := d - 1) htr hq hA hB (by omega)) zl_X0_53 zi_X2_copyFrom zs_X2_copyFrom zc_X2_copyFrom zn_X2 zd_X2_copyFrom (Nat.le_of_ble_eq_true rfl) dX0_copyFrom_8 (by omega) (by omega) ?_
  refine zr_aload_0 hO dX0_copyFrom_11 ?_
  refine zV_pc (pc' := 12) rfl ?_
  refine zr_getfr (c := 0) hO (by decide) (by decide) zf_X0_21 (zC_0 hB) rfl rfl dX0_copyFrom_12 ?_
  refine zr_aload_1 hO dX0_copyFrom_15 ?_
  refine zr_getfr (c := 0) hO (by decide) (by decide) zf_X0_21 (zC_0 hA) rfl rfl dX0_copyFrom_16 ?_
  refine zr_V1 (D := d) hO hRm hL (by omega) (by decide) (c := 5) (by decide) (zC_3 hB) rfl rfl (e_X5_copyFrom (d := d - 1) htr hq hA hB (by omega)) zl_X0_57 zi_X5_copyFrom zs_X5_copyFrom zc_X5_copyFrom zn_X5 zd_X5_copyFrom (Nat.le_of_ble_eq_true rfl) dX0_copyFrom_19 (by omega) (by omega) ?_
  refine zr_iconst (v := 0) hO dX0_copyFrom_22 (by decide) ?_
  refine zr_istore_2 hO dX0_copyFrom_23 (by decide) rfl ?_
  rw [← nI_0]
  refine z_for (P := fun i s => zV G X 3 0 0 (fun x => n ≤ x) ly τ (zwr (zwr σ o 95 A) q 95 s) 24 [some (.ref q), some (.ref o), some (.int (nI i)), none, none, none, none, none, none] []) 16 (fun i s => cC4 A i s) (fun _ _ => True) (cC5 A (cC2 A B)) trivial (fun _ _ _ _ => trivial) ?_ ?_
  · intro i s hi _ ih
    refine zr_iload_2 hO dX0_copyFrom_24 ?_
    refine zr_bipush (v := 16) hO dX0_copyFrom_25 (by decide) ?_
    refine zr_icmp_ge (tgt := 51) hO dX0_copyFrom_27 (by decide) (fun c => absurd (zlt_T (x := 16) (by decide) hi) c) (fun c9 => ?_)
    refine zr_aload_0 hO dX0_copyFrom_30 ?_
    refine zr_getfr (c := 0) hO (by decide) (by decide) zf_X0_27 (zC_0 hB) rfl rfl dX0_copyFrom_31 ?_
    refine zr_iload_2 hO dX0_copyFrom_34 ?_
    refine zr_aaldTN hO (zC_8 hB) hi dX0_copyFrom_35 ?_
    refine zr_aload_1 hO dX0_copyFrom_36 ?_
    refine zr_getfr (c := 0) hO (by decide) (by decide) zf_X0_27 (zC_0 hA) rfl rfl dX0_copyFrom_37 ?_
    refine zV_pc (pc' := 40) rfl ?_
    refine zr_iload_2 hO dX0_copyFrom_40 ?_
    refine zr_aaldTN hO (zC_8 hA) hi dX0_copyFrom_41 ?_
    refine zr_V1 (D := d) hO hRm hL (by omega) (by decide) (c := 4) (by decide) (zC_t hB hi) rfl rfl (e_X4_copyFrom (d := d - 1) htr hq hA hB (by omega) hi) zl_X0_60 zi_X4_copyFrom zs_X4_copyFrom zc_X4_copyFrom zn_X4 zd_X4_copyFrom (Nat.le_of_ble_eq_true rfl) dX0_copyFrom_42 (by omega) (by omega) ?_
    refine zr_iinc_2 (v := 1) hO dX0_copyFrom_45 (by decide) (by decide) rfl ?_
    refine zr_goto (tgt := 24) hO dX0_copyFrom_48 (by decide) ?_
    rw [nI_1]
    exact ih
  · intro _
    refine zr_iload_2 hO dX0_copyFrom_24 ?_
    refine zr_bipush (v := 16) hO dX0_copyFrom_25 (by decide) ?_
    refine zr_icmp_ge (tgt := 51) hO dX0_copyFrom_27 (by decide) (fun c9 => ?_) (fun c => absurd c (zlt_F (x := 16) (by decide)))
    refine zV_d2 ?_
    refine zr_aload_1 hO dX0_copyFrom_51 ?_
    refine zr_getfr (c := 0) hO (by decide) (by decide) zf_X0_31 (zC_0 hA) rfl rfl dX0_copyFrom_52 ?_
    refine zr_iconst (v := 0) hO dX0_copyFrom_55 (by decide) ?_
    refine zr_aload_0 hO dX0_copyFrom_56 ?_
    refine zr_getfr (c := 0) hO (by decide) (by decide) zf_X0_31 (zC_0 hB) rfl rfl dX0_copyFrom_57 ?_
    refine zr_iconst (v := 0) hO dX0_copyFrom_60 (by decide) ?_
    refine zV_pc (pc' := 61) rfl ?_
    refine zr_iconst (v := 4) hO dX0_copyFrom_61 (by decide) ?_
    refine zr_copy (D := d) hO (by omega) hRm zl_X0_63 (zC_9 hA) (zC_9 hB) (by decide) (by decide) (by decide) (by decide) (by decide) (Nat.le_of_ble_eq_true rfl) dX0_copyFrom_62 ?_
    rw [zwr_cp3 (f := 9) (n := 4) σ hq (by decide) rfl]
    refine zr_aload_1 hO dX0_copyFrom_65 ?_
    refine zr_getfr (c := 0) hO (by decide) (by decide) zf_X0_35 (zC_0 hA) rfl rfl dX0_copyFrom_66 ?_
    refine zr_iconst (v := 0) hO dX0_copyFrom_69 (by decide) ?_
    refine zr_aload_0 hO dX0_copyFrom_70 ?_
    refine zr_getfr (c := 0) hO (by decide) (by decide) zf_X0_35 (zC_0 hB) rfl rfl dX0_copyFrom_71 ?_
    refine zV_pc (pc' := 74) rfl ?_
    refine zr_iconst (v := 0) hO dX0_copyFrom_74 (by decide) ?_
    refine zr_bipush (v := 6) hO dX0_copyFrom_75 (by decide) ?_
    refine zr_copy (D := d) hO (by omega) hRm zl_X0_63 (zC_10 hA) (zC_10 hB) (by decide) (by decide) (by decide) (by decide) (by decide) (Nat.le_of_ble_eq_true rfl) dX0_copyFrom_77 ?_
    rw [zwr_cp3 (f := 10) (n := 6) σ hq (by decide) rfl]
    refine zr_aload_1 hO dX0_copyFrom_80 ?_
    refine zr_getfr (c := 0) hO (by decide) (by decide) zf_X0_38 (zC_0 hA) rfl rfl dX0_copyFrom_81 ?_
    refine zr_iconst (v := 0) hO dX0_copyFrom_84 (by decide) ?_
    refine zr_aload_0 hO dX0_copyFrom_85 ?_
    refine zV_pc (pc' := 86) rfl ?_
    refine zr_getfr (c := 0) hO (by decide) (by decide) zf_X0_38 (zC_0 hB) rfl rfl dX0_copyFrom_86 ?_
    refine zr_iconst (v := 0) hO dX0_copyFrom_89 (by decide) ?_
    refine zr_bipush (v := 6) hO dX0_copyFrom_90 (by decide) ?_
    refine zr_copy (D := d) hO (by omega) hRm zl_X0_63 (zC_11 hA) (zC_11 hB) (by decide) (by decide) (by decide) (by decide) (by decide) (Nat.le_of_ble_eq_true rfl) dX0_copyFrom_92 ?_
    rw [zwr_cp3 (f := 11) (n := 6) σ hq (by decide) rfl]
    refine zr_aload_1 hO dX0_copyFrom_95 ?_
    refine zr_getfr (c := 0) hO (by decide) (by decide) zf_X0_41 (zC_0 hA) rfl rfl dX0_copyFrom_96 ?_
    refine zr_iconst (v := 0) hO dX0_copyFrom_99 (by decide) ?_
    refine zV_pc (pc' := 100) rfl ?_
    refine zr_aload_0 hO dX0_copyFrom_100 ?_
    refine zr_getfr (c := 0) hO (by decide) (by decide) zf_X0_41 (zC_0 hB) rfl rfl dX0_copyFrom_101 ?_
    refine zr_iconst (v := 0) hO dX0_copyFrom_104 (by decide) ?_
    refine zr_iconst (v := 3) hO dX0_copyFrom_105 (by decide) ?_
    refine zr_copy (D := d) hO (by omega) hRm zl_X0_63 (zC_12 hA) (zC_12 hB) (by decide) (by decide) (by decide) (by decide) (by decide) (Nat.le_of_ble_eq_true rfl) dX0_copyFrom_106 ?_
    rw [zwr_cp3 (f := 12) (n := 3) σ hq (by decide) rfl]
    refine zr_aload_0 hO dX0_copyFrom_109 ?_
    refine zr_aload_1 hO dX0_copyFrom_110 ?_
    refine zV_pc (pc' := 111) rfl ?_
    refine zy_getfi0 (c := 0) hO hq (zC_0 hA) (by decide) (by decide) zf_X0_69 rfl dX0_copyFrom_111 ?_
    refine zg_putfi0 (c := 0) hO (zC_0 hB) (by decide) (by decide) (by decide) zf_X0_69 rfl rfl dX0_copyFrom_114 ?_
    refine zr_aload_0 hO dX0_copyFrom_117 ?_
    refine zr_aload_1 hO dX0_copyFrom_118 ?_
    refine zy_getfi0 (c := 0) hO hq (zC_0 hA) (by decide) (by decide) zf_X0_73 rfl dX0_copyFrom_119 ?_
    refine zg_putfi0 (c := 0) hO (zC_0 hB) (by decide) (by decide) (by decide) zf_X0_73 rfl rfl dX0_copyFrom_122 ?_
    refine zr_aload_0 hO dX0_copyFrom_125 ?_
    refine zV_pc (pc' := 126) rfl ?_
    refine zr_aload_1 hO dX0_copyFrom_126 ?_
    refine zy_getfi0 (c := 0) hO hq (zC_0 hA) (by decide) (by decide) zf_X0_76 rfl dX0_copyFrom_127 ?_
    refine zg_putfi0 (c := 0) hO (zC_0 hB) (by decide) (by decide) (by decide) zf_X0_76 rfl rfl dX0_copyFrom_130 ?_
    refine zr_aload_0 hO dX0_copyFrom_133 ?_
    refine zr_aload_1 hO dX0_copyFrom_134 ?_
    refine zy_getfi0 (c := 0) hO hq (zC_0 hA) (by decide) (by decide) zf_X0_79 rfl dX0_copyFrom_135 ?_
    refine zg_putfi0 (c := 0) hO (zC_0 hB) (by decide) (by decide) (by decide) zf_X0_79 rfl rfl dX0_copyFrom_138 ?_
    exact zr_return hO hE dX0_copyFrom_141 (fun z9 hz9 => ⟨rfl, hz9, rfl, rfl, rfl⟩)
