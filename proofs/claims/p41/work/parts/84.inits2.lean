set_option maxRecDepth 100000 in
set_option maxHeartbeats 400000 in
theorem e_X1_init {l : Launch} {G : zGm} {d o : Nat} {ly : zLy} {τ : zTu} {σ : zSg} (htr : l.stackTraces = false) (hly : ly o = (1 + 5, 4, znr)) (hd : 1 ≤ d) : zEv l G d 2 32 (yX1_init, cX1_init, 1, none) [.ref o] (fun z => z = o + 1) ly τ (zwr σ o 1 (fun _ _ => 0)) (zPn o 3 (mk1 o) (cN1) ly σ) := by
  refine zEv_of (ls := [some (.ref o), none, none, none, none, none, none, none, none]) htr (by decide) (Nat.le_of_ble_eq_true rfl) rfl (fun X hO hE hN hRm hL hNm => ?_)
  have hO : zOk G X RX1 cX1_init 1 := hO
  refine zr_aload_0 hO dX1_init_0 ?_
  refine zr_objInit (D := d) hO (by omega) hRm zl_X1_3 (Nat.le_of_ble_eq_true rfl) dX1_init_1 ?_
  refine zr_aload_0 hO dX1_init_4 ?_
  refine zr_iconst (v := 1) hO dX1_init_5 (by decide) ?_
  refine zg_putfi0 (c := 1) hO hly (by decide) (by decide) (by decide) zf_X1_9 rfl rfl dX1_init_6 ?_
  rw [zwr_cg (M' := cN1) σ (fun f hf => by
    have : f = 0 := by omega
    subst this
    funext j
    match j with
    | 0 => rfl
    | j + 1 => rfl)]
  have hB : zBI (mk1 o) o 1 1 4 znr ly ly := ⟨hly, fun f h0 h1 => absurd h1 (by omega), fun a _ => rfl⟩
  refine zr_aload_0 hO dX1_init_9 ?_
  refine zr_bipush (v := 16) hO dX1_init_10 (by decide) ?_
  refine zi_new (N := 16) hO hB (by decide) rfl (by decide) rfl (by decide) (by omega) (by omega) rfl dX1_init_12 (fun ly1 hB => ?_)
  refine zi_put hO hNm hB (by decide) (by decide) (by decide) rfl zf_X1_15 rfl rfl ⟨rfl, rfl⟩ dX1_init_14 (fun ly1 hB => ?_)
  refine zr_aload_0 hO dX1_init_17 ?_
  refine zr_bipush (v := 16) hO dX1_init_18 (by decide) ?_
  refine zi_new (N := 16) hO hB (by decide) rfl (by decide) rfl (by decide) (by omega) (by omega) rfl dX1_init_20 (fun ly1 hB => ?_)
  refine zi_put hO hNm hB (by decide) (by decide) (by decide) rfl zf_X1_19 rfl rfl ⟨rfl, rfl⟩ dX1_init_22 (fun ly1 hB => ?_)
  exact zr_return hO hE dX1_init_25 (fun z hz => zPn_of hB (by decide) rfl rfl rfl hz)
set_option maxRecDepth 100000 in
set_option maxHeartbeats 400000 in
theorem e_X2_init {l : Launch} {G : zGm} {d o : Nat} {ly : zLy} {τ : zTu} {σ : zSg} (htr : l.stackTraces = false) (hly : ly o = (2 + 5, 6, znr)) (hd : 1 ≤ d) : zEv l G d 1 4 (yX2_init, cX2_init, 1, none) [.ref o] (fun z => z = o + 1) ly τ (zwr σ o 1 (fun _ _ => 0)) (zPn o 2 (mk2 o) (cN2) ly σ) := by
  refine zEv_of (ls := [some (.ref o), none, none, none, none, none, none, none, none]) htr (by decide) (Nat.le_of_ble_eq_true rfl) rfl (fun X hO hE hN hRm hL hNm => ?_)
  have hO : zOk G X RX2 cX2_init 1 := hO
  refine zr_aload_0 hO dX2_init_0 ?_
  refine zr_objInit (D := d) hO (by omega) hRm zl_X2_3 (Nat.le_of_ble_eq_true rfl) dX2_init_1 ?_
  refine zr_aload_0 hO dX2_init_4 ?_
  refine zr_iconst (v := 1) hO dX2_init_5 (by decide) ?_
  refine zg_putfi0 (c := 2) hO hly (by decide) (by decide) (by decide) zf_X2_9 rfl rfl dX2_init_6 ?_
  refine zr_aload_0 hO dX2_init_9 ?_
  refine zr_iconst (v := 0) hO dX2_init_10 (by decide) ?_
  refine zg_putfi0 (c := 2) hO hly (by decide) (by decide) (by decide) zf_X2_15 rfl rfl dX2_init_11 ?_
  refine zr_aload_0 hO dX2_init_14 ?_
  refine zr_iconst (v := 3) hO dX2_init_15 (by decide) ?_
  refine zg_putfi0 (c := 2) hO hly (by decide) (by decide) (by decide) zf_X2_18 rfl rfl dX2_init_16 ?_
  refine zr_aload_0 hO dX2_init_19 ?_
  refine zr_iconst (v := 0) hO dX2_init_20 (by decide) ?_
  refine zg_putfi0 (c := 2) hO hly (by decide) (by decide) (by decide) zf_X2_21 rfl rfl dX2_init_21 ?_
  refine zr_aload_0 hO dX2_init_24 ?_
  refine zr_bipush (v := 10) hO dX2_init_25 (by decide) ?_
  refine zg_putfi0 (c := 2) hO hly (by decide) (by decide) (by decide) zf_X2_24 rfl rfl dX2_init_27 ?_
  rw [zwr_cg (M' := cN2) σ (fun f hf => by
    have : f = 0 := by omega
    subst this
    funext j
    match j with
    | 0 => rfl
    | 1 => rfl
    | 2 => rfl
    | 3 => rfl
    | 4 => rfl
    | j + 5 => rfl)]
  have hB : zBI (mk2 o) o 1 2 6 znr ly ly := ⟨hly, fun f h0 h1 => absurd h1 (by omega), fun a _ => rfl⟩
  refine zr_aload_0 hO dX2_init_30 ?_
  refine zr_iconst (v := 4) hO dX2_init_31 (by decide) ?_
  refine zi_new (N := 4) hO hB (by decide) rfl (by decide) rfl (by decide) (by omega) (by omega) rfl dX2_init_32 (fun ly1 hB => ?_)
  refine zi_put hO hNm hB (by decide) (by decide) (by decide) rfl zf_X2_27 rfl rfl ⟨rfl, rfl⟩ dX2_init_34 (fun ly1 hB => ?_)
  exact zr_return hO hE dX2_init_37 (fun z hz => zPn_of hB (by decide) rfl rfl rfl hz)
set_option maxRecDepth 100000 in
set_option maxHeartbeats 400000 in
theorem e_X3_init {l : Launch} {G : zGm} {d o : Nat} {ly : zLy} {τ : zTu} {σ : zSg} (htr : l.stackTraces = false) (hly : ly o = (3 + 5, 5, znr)) (hd : 1 ≤ d) : zEv l G d 0 0 (yX3_init, cX3_init, 1, none) [.ref o] (fun z => z = o + 1) ly τ (zwr σ o 1 (fun _ _ => 0)) (zPn o 1 (fun _ => mk3 0) (cN3) ly σ) := by
  refine zEv_of (ls := [some (.ref o), none, none, none, none, none, none, none, none]) htr (by decide) (Nat.le_of_ble_eq_true rfl) rfl (fun X hO hE hN hRm hL hNm => ?_)
  have hO : zOk G X RX3 cX3_init 1 := hO
  refine zr_aload_0 hO dX3_init_0 ?_
  refine zr_objInit (D := d) hO (by omega) hRm zl_X3_3 (Nat.le_of_ble_eq_true rfl) dX3_init_1 ?_
  refine zr_aload_0 hO dX3_init_4 ?_
  refine zr_iconst (v := (-1)) hO dX3_init_5 (by decide) ?_
  refine zg_putfi0 (c := 3) hO hly (by decide) (by decide) (by decide) zf_X3_9 rfl rfl dX3_init_6 ?_
  refine zr_aload_0 hO dX3_init_9 ?_
  refine zr_iconst (v := (-1)) hO dX3_init_10 (by decide) ?_
  refine zg_putfi0 (c := 3) hO hly (by decide) (by decide) (by decide) zf_X3_15 rfl rfl dX3_init_11 ?_
  rw [zwr_cg (M' := cN3) σ (fun f hf => by
    have : f = 0 := by omega
    subst this
    funext j
    match j with
    | 0 => rfl
    | 1 => rfl
    | 2 => rfl
    | 3 => rfl
    | 4 => rfl
    | j + 5 => simp [zup, cN3, upd])]
  have hB : zBI (fun _ => mk3 0) o 1 3 5 znr ly ly := ⟨hly, fun f h0 h1 => absurd h1 (by omega), fun a _ => rfl⟩
  exact zr_return hO hE dX3_init_14 (fun z hz => zPn_of hB (by decide) rfl rfl rfl hz)
set_option maxRecDepth 100000 in
set_option maxHeartbeats 400000 in
theorem e_X4_init {l : Launch} {G : zGm} {d o : Nat} {ly : zLy} {τ : zTu} {σ : zSg} {v : Int32} (htr : l.stackTraces = false) (hly : ly o = (4 + 5, 16, znr)) (hd : 2 ≤ d) : zEv l G d 4 41 (yX4_init, cX4_init, 2, none) [.ref o, .int v] (fun z => z = o + 1) ly τ (zwr σ o 1 (fun _ _ => 0)) (zPn o 5 (mk4 o) (cN4 v) ly σ) := by
  refine zEv_of (ls := [some (.ref o), some (.int v), none, none, none, none, none, none, none]) htr (by decide) (Nat.le_of_ble_eq_true rfl) rfl (fun X hO hE hN hRm hL hNm => ?_)
  have hO : zOk G X RX4 cX4_init 2 := hO
  refine zr_aload_0 hO dX4_init_0 ?_
  refine zr_objInit (D := d) hO (by omega) hRm zl_X4_3 (Nat.le_of_ble_eq_true rfl) dX4_init_1 ?_
  have hB : zBI (mk4 o) o 1 4 16 znr ly ly := ⟨hly, fun f h0 h1 => absurd h1 (by omega), fun a _ => rfl⟩
  rw [zwr_cg (M' := fun f j => if f = 0 then 0 else cN4 v f j) σ (fun f hf => by rw [show f = 0 by omega]; rfl)]
  refine zr_aload_0 hO dX4_init_4 ?_
  refine zi_newO (c' := 1) (n' := 4) hO (by decide) zk_X4_9 zj_X1 zn_X1 rfl (by omega) (by omega) dX4_init_5 (fun ly2 τ2 h1 h2 => ?_)
  refine zr_dup hO dX4_init_8 rfl ?_
  refine zi_initN (D := d) (As := []) (m' := 3) (mk' := mk1 (o + 1)) (M' := cN1) hO hRm hL (by omega) (by decide) rfl (e_X1_init (d := d - 1) htr h1 (by omega)) zl_X4_11 zi_X1_init zc_X1_init zn_X1 zd_X1_init (Nat.le_of_ble_eq_true rfl) dX4_init_9 (by omega) (by omega) hB (by omega) h2 (by decide) (fun f hf => by match f, hf with | 0, _ => rfl | 1, _ => rfl | 2, _ => rfl | f + 3, h9 => exact absurd h9 (by omega)) (fun f hf => by match f, hf with | 0, _ => rfl | 1, _ => (funext j; rfl) | 2, _ => (funext j; rfl) | f + 3, h9 => exact absurd h9 (by omega)) (fun ly1 τ1 hB => ?_)
  refine zi_put hO hNm hB (by decide) (by decide) (by decide) rfl zf_X4_12 rfl rfl ⟨rfl, rfl⟩ dX4_init_12 (fun ly1 hB => ?_)
  refine zr_aload_0 hO dX4_init_15 ?_
  refine zi_newO (c' := 3) (n' := 5) hO (by decide) zk_X4_18 zj_X3 zn_X3 rfl (by omega) (by omega) dX4_init_16 (fun ly2 τ2 h1 h2 => ?_)
  refine zr_dup hO dX4_init_19 rfl ?_
  refine zi_initN (D := d) (As := []) (m' := 1) (mk' := (fun _ => mk3 0)) (M' := cN3) hO hRm hL (by omega) (by decide) rfl (e_X3_init (d := d - 1) htr h1 (by omega)) zl_X4_20 zi_X3_init zc_X3_init zn_X3 zd_X3_init (Nat.le_of_ble_eq_true rfl) dX4_init_20 (by omega) (by omega) hB (by omega) h2 (by decide) (fun f hf => by match f, hf with | 0, _ => rfl | f + 1, h9 => exact absurd h9 (by omega)) (fun f hf => by match f, hf with | 0, _ => rfl | f + 1, h9 => exact absurd h9 (by omega)) (fun ly1 τ1 hB => ?_)
  refine zi_put hO hNm hB (by decide) (by decide) (by decide) rfl zf_X4_21 rfl rfl ⟨rfl, rfl⟩ dX4_init_23 (fun ly1 hB => ?_)
  refine zr_aload_0 hO dX4_init_26 ?_
  refine zr_iconst (v := 0) hO dX4_init_27 (by decide) ?_
  refine zg_putfi0 (c := 4) hO hB.1 (by decide) (by decide) (by decide) zf_X4_25 rfl rfl dX4_init_28 ?_
  refine zr_aload_0 hO dX4_init_31 ?_
  refine zr_iconst (v := (-1)) hO dX4_init_32 (by decide) ?_
  refine zg_putfi0 (c := 4) hO hB.1 (by decide) (by decide) (by decide) zf_X4_29 rfl rfl dX4_init_33 ?_
  refine zr_aload_0 hO dX4_init_36 ?_
  refine zr_iconst (v := (-1)) hO dX4_init_37 (by decide) ?_
  refine zg_putfi0 (c := 4) hO hB.1 (by decide) (by decide) (by decide) zf_X4_32 rfl rfl dX4_init_38 ?_
  refine zr_aload_0 hO dX4_init_41 ?_
  refine zr_iload_1 hO dX4_init_42 ?_
  refine zr_putfFi (c := 4) hO hNm (by decide) (by decide) rfl zf_X4_35 hB.1 rfl rfl dX4_init_43 ?_
  rw [zwr_up0 _ _ _ _ (by decide), zwr_cg (M' := cN4 v) σ (fun f hf => by
    by_cases h : f = 0
    · subst h
      funext j
      match j with
      | 0 => rfl
      | 1 => rfl
      | 2 => rfl
      | 3 => rfl
      | 4 => rfl
      | 5 => rfl
      | 6 => rfl
      | 7 => rfl
      | 8 => rfl
      | 9 => rfl
      | 10 => rfl
      | 11 => rfl
      | 12 => rfl
      | 13 => rfl
      | j + 14 => simp [zup, cN4, upd]
    · funext j; simp [zup, h])]
  exact zr_return hO hE dX4_init_46 (fun z hz => zPn_of hB (by decide) rfl rfl rfl hz)
set_option maxRecDepth 100000 in
set_option maxHeartbeats 400000 in
theorem e_X5_init {l : Launch} {G : zGm} {d o : Nat} {ly : zLy} {τ : zTu} {σ : zSg} (htr : l.stackTraces = false) (hly : ly o = (5 + 5, 4, znr)) (hd : 1 ≤ d) : zEv l G d 4 93 (yX5_init, cX5_init, 1, none) [.ref o] (fun z => z = o + 1) ly τ (zwr σ o 1 (fun _ _ => 0)) (zPn o 5 (mk5 o) ((fun _ _ => 0)) ly σ) := by
  refine zEv_of (ls := [some (.ref o), none, none, none, none, none, none, none, none]) htr (by decide) (Nat.le_of_ble_eq_true rfl) rfl (fun X hO hE hN hRm hL hNm => ?_)
  have hO : zOk G X RX5 cX5_init 1 := hO
  refine zr_aload_0 hO dX5_init_0 ?_
  refine zr_objInit (D := d) hO (by omega) hRm zl_X5_3 (Nat.le_of_ble_eq_true rfl) dX5_init_1 ?_
  have hB : zBI (mk5 o) o 1 5 4 znr ly ly := ⟨hly, fun f h0 h1 => absurd h1 (by omega), fun a _ => rfl⟩
  refine zr_aload_0 hO dX5_init_4 ?_
  refine zr_iconst (v := 3) hO dX5_init_5 (by decide) ?_
  refine zr_bipush (v := 30) hO dX5_init_6 (by decide) ?_
  refine zi_mul (N := 3) (K := 30) hO hB (by decide) zk_X5_9 (by decide) (by decide) rfl rfl (by decide) (by decide) (by omega) (by omega) rfl (fun f h0 h1 => by match f, h0, h1 with | 2, _, _ => rfl | 3, _, _ => rfl | 4, _, _ => rfl | f + 5, _, h9 => exact absurd h9 (by omega)) (fun f h0 h1 => rfl) dX5_init_8 (fun ly1 hB => ?_)
  refine zi_put hO hNm hB (by decide) (by decide) (by decide) rfl zf_X5_11 rfl rfl ⟨rfl, rfl⟩ dX5_init_12 (fun ly1 hB => ?_)
  exact zr_return hO hE dX5_init_15 (fun z hz => zPn_of hB (by decide) rfl rfl rfl hz)
