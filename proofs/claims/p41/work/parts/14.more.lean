theorem fb_bmod {z : Int} (h1 : -2147483648 ≤ z) (h2 : z < 2147483648) : z.bmod (2 ^ 32) = z := by
  rw [Int.bmod_eq_of_le (by omega) (by omega)]
theorem fb_addI {x y : Int32} (h1 : -2147483648 ≤ x.toInt + y.toInt) (h2 : x.toInt + y.toInt < 2147483648) : (x + y).toInt = x.toInt + y.toInt := by
  rw [Int32.toInt_add, fb_bmod h1 h2]
theorem fb_subI {x y : Int32} (h1 : -2147483648 ≤ x.toInt - y.toInt) (h2 : x.toInt - y.toInt < 2147483648) : (x - y).toInt = x.toInt - y.toInt := by
  rw [Int32.toInt_sub, fb_bmod h1 h2]
theorem zrng (x : Int32) : -2147483648 ≤ x.toInt ∧ x.toInt < 2147483648 := by
  have h1 := Int32.le_toInt x
  have h2 := Int32.toInt_lt x
  omega
/-! More rows: indexes that are numbers, rows of rows, Math -/
theorem zb_nar (b : Bool) : narrow .boolean (.int (zb b)) = .int (zb b) := by cases b <;> decide
theorem zix {k : Nat} (h : k < 2147483648) : ix (nI k) = k := nI_clamp (by omega)
theorem ztoInt {x : Int32} (h : 0 ≤ x.toInt) : (ix x : Int) = x.toInt := by
  show ((x.toInt.toNat : Nat) : Int) = x.toInt
  omega
theorem zlt_T {x : Int32} {i : Nat} (h0 : 0 ≤ x.toInt) (hi : i < ix x) : nI i < x := by
  have h1 := ztoInt h0
  have h2 := zrng x
  rw [Int32.lt_iff_toInt_lt, nI_toInt (by omega)]
  omega
theorem zlt_F {x : Int32} (h0 : 0 ≤ x.toInt) : ¬ nI (ix x) < x := by
  have h1 := ztoInt h0
  have h2 := zrng x
  rw [Int32.lt_iff_toInt_lt, nI_toInt (by omega)]
  omega
section ZH
variable {G : zGm} {X : zCx} {own : String} {cc : ByteArray} {nL bc bs : Nat} {S : Nat → Prop} {ly : zLy} {τ : zTu} {σ M : zSg} {pc o N f : Nat} {ls : List (Option Value)} {st : List Value}
theorem zg_ialdN (hO : zOk G X own cc nL) {n k : Nat} {rf : Nat → Option Nat} (hly : ly (o + f) = (1, n, rf)) (hf : f < N) (hk : k < n) (hn : n ≤ 64) (hdg : decode cc pc = .ok (.iaload, 1)) (kk : zV G X nL bc bs S ly τ (zwr σ o N M) (pc + 1) ls (.int (M f k) :: st)) : zV G X nL bc bs S ly τ (zwr σ o N M) pc ls (.int (nI k) :: .ref (o + f) :: st) :=
  zg_iald hO hly hf (vp_in_nI hk (by omega)) hdg (by rw [zix (by omega)]; exact kk)
theorem zg_iastN (hO : zOk G X own cc nL) {n k : Nat} {v : Int32} {rf : Nat → Option Nat} (hly : ly (o + f) = (1, n, rf)) (hf : f < N) (hk : k < n) (hn : n ≤ 64) (hdg : decode cc pc = .ok (.iastore, 1)) (kk : zV G X nL bc bs S ly τ (zwr σ o N (zup M f k v)) (pc + 1) ls st) : zV G X nL bc bs S ly τ (zwr σ o N M) pc ls (.int v :: .int (nI k) :: .ref (o + f) :: st) :=
  zg_iast hO hly hf (vp_in_nI hk (by omega)) hdg (by rw [zix (by omega)]; exact kk)
theorem zr_aaldIx (hO : zOk G X own cc nL) {a n s9 : Nat} (hly : ly a = (3, n, zrows o s9 n)) {i : Int32} (hin : vp_in i n) (hdg : decode cc pc = .ok (.aaload, 1)) (kk : ix i < n → zV G X nL bc bs S ly τ σ (pc + 1) ls (.ref (o + (s9 + ix i)) :: st)) : zV G X nL bc bs S ly τ σ pc ls (.int i :: .ref a :: st) :=
  zr_aaldI hO hly hin (zrows_at hin) hdg (kk (zin_lt hin))
theorem zr_aaldIN (hO : zOk G X own cc nL) {a n s9 k : Nat} (hly : ly a = (3, n, zrows o s9 n)) (hk : k < n) (hn : n ≤ 64) (hdg : decode cc pc = .ok (.aaload, 1)) (kk : zV G X nL bc bs S ly τ σ (pc + 1) ls (.ref (o + (s9 + k)) :: st)) : zV G X nL bc bs S ly τ σ pc ls (.int (nI k) :: .ref a :: st) :=
  zr_aaldI hO hly (vp_in_nI hk (by omega)) (zrows_at (vp_in_nI hk (by omega))) hdg (by rw [zix (by omega)]; exact kk)
theorem zr_aaldTx (hO : zOk G X own cc nL) {a : Nat} (hly : ly a = (4, 16, zcrA o)) {i : Int32} (hin : vp_in i 16) (hdg : decode cc pc = .ok (.aaload, 1)) (kk : ix i < 16 → zV G X nL bc bs S ly τ σ (pc + 1) ls (.ref (o + ztk (ix i)) :: st)) : zV G X nL bc bs S ly τ σ pc ls (.int i :: .ref a :: st) :=
  zr_aaldT hO hly hin (zcrA_at hin) hdg (kk (zin_lt hin))
theorem zr_aaldTN (hO : zOk G X own cc nL) {a k : Nat} (hly : ly a = (4, 16, zcrA o)) (hk : k < 16) (hdg : decode cc pc = .ok (.aaload, 1)) (kk : zV G X nL bc bs S ly τ σ (pc + 1) ls (.ref (o + ztk k) :: st)) : zV G X nL bc bs S ly τ σ pc ls (.int (nI k) :: .ref a :: st) :=
  zr_aaldT hO hly (vp_in_nI hk (by omega)) (zcrA_at (vp_in_nI hk (by omega))) hdg (by rw [zix (by omega)]; exact kk)
theorem zr_mmin (hO : zOk G X own cc nL) {D index : Nat} (hd : 1 ≤ D) (hRm : zRm X D) (hw : Cond.methodLink own index Lib.Math.min.name ∈ lw_tbl) {x y : Int32} (hdg : decode cc pc = .ok (.invokestatic index, 3)) (hcat : (st.map fun v => v.category).sum ≤ 8) (k : zV G X nL bc bs S ly τ σ (pc + 3) ls (.int (if y < x then y else x) :: st)) : zV G X nL bc bs S ly τ σ pc ls (.int y :: .int x :: st) := by
  obtain ⟨p, l, e, R, s, m, args, below, meth, c0, Q⟩ := X
  obtain ⟨hx, hb, hml, hown, hts, hlk, hK, htr⟩ := hO
  intro H locs cells slots la hR hS h1 h2 hl
  obtain ⟨hr1, hr2⟩ := hRm
  exact va_mmin hx hb (hml.trans hl.1.symm) hown (hts _ hw rfl) (hts _ zq_min_static rfl) (hts _ zq_math rfl) (hts _ zq_min_code rfl) (by omega) (by omega) (by omega) (by omega) hdg (k H locs cells slots la hR hS h1 h2 hl)
end ZH
theorem zd_X0_init : yX0_init.cls ≠ "java/lang/invoke/MethodHandle" ∧ yX0_init.cls ≠ "java/lang/invoke/VarHandle" ∧ (parseMethodDescriptor yX0_init.desc).map (fun d => d.parameters.length) = some 0 := ⟨by decide +kernel, by decide +kernel, by decide +kernel⟩
theorem zd_X0_copyFrom : yX0_copyFrom.cls ≠ "java/lang/invoke/MethodHandle" ∧ yX0_copyFrom.cls ≠ "java/lang/invoke/VarHandle" ∧ (parseMethodDescriptor yX0_copyFrom.desc).map (fun d => d.parameters.length) = some 1 := ⟨by decide +kernel, by decide +kernel, by decide +kernel⟩
theorem zd_X0_taskAt : yX0_taskAt.cls ≠ "java/lang/invoke/MethodHandle" ∧ yX0_taskAt.cls ≠ "java/lang/invoke/VarHandle" ∧ (parseMethodDescriptor yX0_taskAt.desc).map (fun d => d.parameters.length) = some 1 := ⟨by decide +kernel, by decide +kernel, by decide +kernel⟩
theorem zd_X0_onProcessor : yX0_onProcessor.cls ≠ "java/lang/invoke/MethodHandle" ∧ yX0_onProcessor.cls ≠ "java/lang/invoke/VarHandle" ∧ (parseMethodDescriptor yX0_onProcessor.desc).map (fun d => d.parameters.length) = some 1 := ⟨by decide +kernel, by decide +kernel, by decide +kernel⟩
theorem zd_X0_holderOf : yX0_holderOf.cls ≠ "java/lang/invoke/MethodHandle" ∧ yX0_holderOf.cls ≠ "java/lang/invoke/VarHandle" ∧ (parseMethodDescriptor yX0_holderOf.desc).map (fun d => d.parameters.length) = some 1 := ⟨by decide +kernel, by decide +kernel, by decide +kernel⟩
theorem zd_X0_numberOf : yX0_numberOf.cls ≠ "java/lang/invoke/MethodHandle" ∧ yX0_numberOf.cls ≠ "java/lang/invoke/VarHandle" ∧ (parseMethodDescriptor yX0_numberOf.desc).map (fun d => d.parameters.length) = some 1 := ⟨by decide +kernel, by decide +kernel, by decide +kernel⟩
theorem zd_X0_tasksIn : yX0_tasksIn.cls ≠ "java/lang/invoke/MethodHandle" ∧ yX0_tasksIn.cls ≠ "java/lang/invoke/VarHandle" ∧ (parseMethodDescriptor yX0_tasksIn.desc).map (fun d => d.parameters.length) = some 1 := ⟨by decide +kernel, by decide +kernel, by decide +kernel⟩
theorem zd_X0_waitersAt : yX0_waitersAt.cls ≠ "java/lang/invoke/MethodHandle" ∧ yX0_waitersAt.cls ≠ "java/lang/invoke/VarHandle" ∧ (parseMethodDescriptor yX0_waitersAt.desc).map (fun d => d.parameters.length) = some 2 := ⟨by decide +kernel, by decide +kernel, by decide +kernel⟩
theorem zd_X0_stuckTasks : yX0_stuckTasks.cls ≠ "java/lang/invoke/MethodHandle" ∧ yX0_stuckTasks.cls ≠ "java/lang/invoke/VarHandle" ∧ (parseMethodDescriptor yX0_stuckTasks.desc).map (fun d => d.parameters.length) = some 0 := ⟨by decide +kernel, by decide +kernel, by decide +kernel⟩
theorem zd_X0_isStuck : yX0_isStuck.cls ≠ "java/lang/invoke/MethodHandle" ∧ yX0_isStuck.cls ≠ "java/lang/invoke/VarHandle" ∧ (parseMethodDescriptor yX0_isStuck.desc).map (fun d => d.parameters.length) = some 1 := ⟨by decide +kernel, by decide +kernel, by decide +kernel⟩
theorem zd_X0_findLentKeys : yX0_findLentKeys.cls ≠ "java/lang/invoke/MethodHandle" ∧ yX0_findLentKeys.cls ≠ "java/lang/invoke/VarHandle" ∧ (parseMethodDescriptor yX0_findLentKeys.desc).map (fun d => d.parameters.length) = some 0 := ⟨by decide +kernel, by decide +kernel, by decide +kernel⟩
theorem zd_X0_startTask : yX0_startTask.cls ≠ "java/lang/invoke/MethodHandle" ∧ yX0_startTask.cls ≠ "java/lang/invoke/VarHandle" ∧ (parseMethodDescriptor yX0_startTask.desc).map (fun d => d.parameters.length) = some 1 := ⟨by decide +kernel, by decide +kernel, by decide +kernel⟩
theorem zd_X0_makeReady : yX0_makeReady.cls ≠ "java/lang/invoke/MethodHandle" ∧ yX0_makeReady.cls ≠ "java/lang/invoke/VarHandle" ∧ (parseMethodDescriptor yX0_makeReady.desc).map (fun d => d.parameters.length) = some 1 := ⟨by decide +kernel, by decide +kernel, by decide +kernel⟩
theorem zd_X0_wake : yX0_wake.cls ≠ "java/lang/invoke/MethodHandle" ∧ yX0_wake.cls ≠ "java/lang/invoke/VarHandle" ∧ (parseMethodDescriptor yX0_wake.desc).map (fun d => d.parameters.length) = some 1 := ⟨by decide +kernel, by decide +kernel, by decide +kernel⟩
theorem zd_X0_leastTimeBeside : yX0_leastTimeBeside.cls ≠ "java/lang/invoke/MethodHandle" ∧ yX0_leastTimeBeside.cls ≠ "java/lang/invoke/VarHandle" ∧ (parseMethodDescriptor yX0_leastTimeBeside.desc).map (fun d => d.parameters.length) = some 1 := ⟨by decide +kernel, by decide +kernel, by decide +kernel⟩
theorem zd_X0_leaveProcessor : yX0_leaveProcessor.cls ≠ "java/lang/invoke/MethodHandle" ∧ yX0_leaveProcessor.cls ≠ "java/lang/invoke/VarHandle" ∧ (parseMethodDescriptor yX0_leaveProcessor.desc).map (fun d => d.parameters.length) = some 1 := ⟨by decide +kernel, by decide +kernel, by decide +kernel⟩
theorem zd_X0_clearProcessors : yX0_clearProcessors.cls ≠ "java/lang/invoke/MethodHandle" ∧ yX0_clearProcessors.cls ≠ "java/lang/invoke/VarHandle" ∧ (parseMethodDescriptor yX0_clearProcessors.desc).map (fun d => d.parameters.length) = some 0 := ⟨by decide +kernel, by decide +kernel, by decide +kernel⟩
theorem zd_X0_finish : yX0_finish.cls ≠ "java/lang/invoke/MethodHandle" ∧ yX0_finish.cls ≠ "java/lang/invoke/VarHandle" ∧ (parseMethodDescriptor yX0_finish.desc).map (fun d => d.parameters.length) = some 1 := ⟨by decide +kernel, by decide +kernel, by decide +kernel⟩
theorem zd_X0_unlockBy : yX0_unlockBy.cls ≠ "java/lang/invoke/MethodHandle" ∧ yX0_unlockBy.cls ≠ "java/lang/invoke/VarHandle" ∧ (parseMethodDescriptor yX0_unlockBy.desc).map (fun d => d.parameters.length) = some 2 := ⟨by decide +kernel, by decide +kernel, by decide +kernel⟩
theorem zd_X0_giveSignal : yX0_giveSignal.cls ≠ "java/lang/invoke/MethodHandle" ∧ yX0_giveSignal.cls ≠ "java/lang/invoke/VarHandle" ∧ (parseMethodDescriptor yX0_giveSignal.desc).map (fun d => d.parameters.length) = some 1 := ⟨by decide +kernel, by decide +kernel, by decide +kernel⟩
theorem zd_X0_passTick : yX0_passTick.cls ≠ "java/lang/invoke/MethodHandle" ∧ yX0_passTick.cls ≠ "java/lang/invoke/VarHandle" ∧ (parseMethodDescriptor yX0_passTick.desc).map (fun d => d.parameters.length) = some 0 := ⟨by decide +kernel, by decide +kernel, by decide +kernel⟩
theorem zd_X0_beginPeriods : yX0_beginPeriods.cls ≠ "java/lang/invoke/MethodHandle" ∧ yX0_beginPeriods.cls ≠ "java/lang/invoke/VarHandle" ∧ (parseMethodDescriptor yX0_beginPeriods.desc).map (fun d => d.parameters.length) = some 0 := ⟨by decide +kernel, by decide +kernel, by decide +kernel⟩
theorem zd_X0_wakeSleepers : yX0_wakeSleepers.cls ≠ "java/lang/invoke/MethodHandle" ∧ yX0_wakeSleepers.cls ≠ "java/lang/invoke/VarHandle" ∧ (parseMethodDescriptor yX0_wakeSleepers.desc).map (fun d => d.parameters.length) = some 0 := ⟨by decide +kernel, by decide +kernel, by decide +kernel⟩
theorem zd_X0_endTurns : yX0_endTurns.cls ≠ "java/lang/invoke/MethodHandle" ∧ yX0_endTurns.cls ≠ "java/lang/invoke/VarHandle" ∧ (parseMethodDescriptor yX0_endTurns.desc).map (fun d => d.parameters.length) = some 0 := ⟨by decide +kernel, by decide +kernel, by decide +kernel⟩
theorem zd_X0_shareProcessors : yX0_shareProcessors.cls ≠ "java/lang/invoke/MethodHandle" ∧ yX0_shareProcessors.cls ≠ "java/lang/invoke/VarHandle" ∧ (parseMethodDescriptor yX0_shareProcessors.desc).map (fun d => d.parameters.length) = some 0 := ⟨by decide +kernel, by decide +kernel, by decide +kernel⟩
theorem zd_X0_takeInOrder : yX0_takeInOrder.cls ≠ "java/lang/invoke/MethodHandle" ∧ yX0_takeInOrder.cls ≠ "java/lang/invoke/VarHandle" ∧ (parseMethodDescriptor yX0_takeInOrder.desc).map (fun d => d.parameters.length) = some 0 := ⟨by decide +kernel, by decide +kernel, by decide +kernel⟩
theorem zd_X0_firstOf : yX0_firstOf.cls ≠ "java/lang/invoke/MethodHandle" ∧ yX0_firstOf.cls ≠ "java/lang/invoke/VarHandle" ∧ (parseMethodDescriptor yX0_firstOf.desc).map (fun d => d.parameters.length) = some 1 := ⟨by decide +kernel, by decide +kernel, by decide +kernel⟩
theorem zd_X0_takeOfGroup : yX0_takeOfGroup.cls ≠ "java/lang/invoke/MethodHandle" ∧ yX0_takeOfGroup.cls ≠ "java/lang/invoke/VarHandle" ∧ (parseMethodDescriptor yX0_takeOfGroup.desc).map (fun d => d.parameters.length) = some 1 := ⟨by decide +kernel, by decide +kernel, by decide +kernel⟩
theorem zd_X0_isTaken : yX0_isTaken.cls ≠ "java/lang/invoke/MethodHandle" ∧ yX0_isTaken.cls ≠ "java/lang/invoke/VarHandle" ∧ (parseMethodDescriptor yX0_isTaken.desc).map (fun d => d.parameters.length) = some 2 := ⟨by decide +kernel, by decide +kernel, by decide +kernel⟩
theorem zd_X0_switchTo : yX0_switchTo.cls ≠ "java/lang/invoke/MethodHandle" ∧ yX0_switchTo.cls ≠ "java/lang/invoke/VarHandle" ∧ (parseMethodDescriptor yX0_switchTo.desc).map (fun d => d.parameters.length) = some 1 := ⟨by decide +kernel, by decide +kernel, by decide +kernel⟩
theorem zd_X0_passSteps : yX0_passSteps.cls ≠ "java/lang/invoke/MethodHandle" ∧ yX0_passSteps.cls ≠ "java/lang/invoke/VarHandle" ∧ (parseMethodDescriptor yX0_passSteps.desc).map (fun d => d.parameters.length) = some 1 := ⟨by decide +kernel, by decide +kernel, by decide +kernel⟩
theorem zd_X0_waitFor : yX0_waitFor.cls ≠ "java/lang/invoke/MethodHandle" ∧ yX0_waitFor.cls ≠ "java/lang/invoke/VarHandle" ∧ (parseMethodDescriptor yX0_waitFor.desc).map (fun d => d.parameters.length) = some 3 := ⟨by decide +kernel, by decide +kernel, by decide +kernel⟩
theorem zd_X0_lockBy : yX0_lockBy.cls ≠ "java/lang/invoke/MethodHandle" ∧ yX0_lockBy.cls ≠ "java/lang/invoke/VarHandle" ∧ (parseMethodDescriptor yX0_lockBy.desc).map (fun d => d.parameters.length) = some 2 := ⟨by decide +kernel, by decide +kernel, by decide +kernel⟩
theorem zd_X0_awaitBy : yX0_awaitBy.cls ≠ "java/lang/invoke/MethodHandle" ∧ yX0_awaitBy.cls ≠ "java/lang/invoke/VarHandle" ∧ (parseMethodDescriptor yX0_awaitBy.desc).map (fun d => d.parameters.length) = some 2 := ⟨by decide +kernel, by decide +kernel, by decide +kernel⟩
theorem zd_X0_runTick : yX0_runTick.cls ≠ "java/lang/invoke/MethodHandle" ∧ yX0_runTick.cls ≠ "java/lang/invoke/VarHandle" ∧ (parseMethodDescriptor yX0_runTick.desc).map (fun d => d.parameters.length) = some 1 := ⟨by decide +kernel, by decide +kernel, by decide +kernel⟩
theorem zd_X0_countWaits : yX0_countWaits.cls ≠ "java/lang/invoke/MethodHandle" ∧ yX0_countWaits.cls ≠ "java/lang/invoke/VarHandle" ∧ (parseMethodDescriptor yX0_countWaits.desc).map (fun d => d.parameters.length) = some 0 := ⟨by decide +kernel, by decide +kernel, by decide +kernel⟩
theorem zd_X1_init : yX1_init.cls ≠ "java/lang/invoke/MethodHandle" ∧ yX1_init.cls ≠ "java/lang/invoke/VarHandle" ∧ (parseMethodDescriptor yX1_init.desc).map (fun d => d.parameters.length) = some 0 := ⟨by decide +kernel, by decide +kernel, by decide +kernel⟩
theorem zd_X1_copyFrom : yX1_copyFrom.cls ≠ "java/lang/invoke/MethodHandle" ∧ yX1_copyFrom.cls ≠ "java/lang/invoke/VarHandle" ∧ (parseMethodDescriptor yX1_copyFrom.desc).map (fun d => d.parameters.length) = some 1 := ⟨by decide +kernel, by decide +kernel, by decide +kernel⟩
theorem zd_X1_append : yX1_append.cls ≠ "java/lang/invoke/MethodHandle" ∧ yX1_append.cls ≠ "java/lang/invoke/VarHandle" ∧ (parseMethodDescriptor yX1_append.desc).map (fun d => d.parameters.length) = some 2 := ⟨by decide +kernel, by decide +kernel, by decide +kernel⟩
theorem zd_X1_codeAt : yX1_codeAt.cls ≠ "java/lang/invoke/MethodHandle" ∧ yX1_codeAt.cls ≠ "java/lang/invoke/VarHandle" ∧ (parseMethodDescriptor yX1_codeAt.desc).map (fun d => d.parameters.length) = some 1 := ⟨by decide +kernel, by decide +kernel, by decide +kernel⟩
theorem zd_X1_numberAt : yX1_numberAt.cls ≠ "java/lang/invoke/MethodHandle" ∧ yX1_numberAt.cls ≠ "java/lang/invoke/VarHandle" ∧ (parseMethodDescriptor yX1_numberAt.desc).map (fun d => d.parameters.length) = some 1 := ⟨by decide +kernel, by decide +kernel, by decide +kernel⟩
theorem zd_X1_endsWithRun : yX1_endsWithRun.cls ≠ "java/lang/invoke/MethodHandle" ∧ yX1_endsWithRun.cls ≠ "java/lang/invoke/VarHandle" ∧ (parseMethodDescriptor yX1_endsWithRun.desc).map (fun d => d.parameters.length) = some 0 := ⟨by decide +kernel, by decide +kernel, by decide +kernel⟩
theorem zd_X2_init : yX2_init.cls ≠ "java/lang/invoke/MethodHandle" ∧ yX2_init.cls ≠ "java/lang/invoke/VarHandle" ∧ (parseMethodDescriptor yX2_init.desc).map (fun d => d.parameters.length) = some 0 := ⟨by decide +kernel, by decide +kernel, by decide +kernel⟩
theorem zd_X2_copyFrom : yX2_copyFrom.cls ≠ "java/lang/invoke/MethodHandle" ∧ yX2_copyFrom.cls ≠ "java/lang/invoke/VarHandle" ∧ (parseMethodDescriptor yX2_copyFrom.desc).map (fun d => d.parameters.length) = some 1 := ⟨by decide +kernel, by decide +kernel, by decide +kernel⟩
theorem zd_X2_begins : yX2_begins.cls ≠ "java/lang/invoke/MethodHandle" ∧ yX2_begins.cls ≠ "java/lang/invoke/VarHandle" ∧ (parseMethodDescriptor yX2_begins.desc).map (fun d => d.parameters.length) = some 2 := ⟨by decide +kernel, by decide +kernel, by decide +kernel⟩
theorem zd_X2_endsTurn : yX2_endsTurn.cls ≠ "java/lang/invoke/MethodHandle" ∧ yX2_endsTurn.cls ≠ "java/lang/invoke/VarHandle" ∧ (parseMethodDescriptor yX2_endsTurn.desc).map (fun d => d.parameters.length) = some 2 := ⟨by decide +kernel, by decide +kernel, by decide +kernel⟩
theorem zd_X3_init : yX3_init.cls ≠ "java/lang/invoke/MethodHandle" ∧ yX3_init.cls ≠ "java/lang/invoke/VarHandle" ∧ (parseMethodDescriptor yX3_init.desc).map (fun d => d.parameters.length) = some 0 := ⟨by decide +kernel, by decide +kernel, by decide +kernel⟩
theorem zd_X3_copyFrom : yX3_copyFrom.cls ≠ "java/lang/invoke/MethodHandle" ∧ yX3_copyFrom.cls ≠ "java/lang/invoke/VarHandle" ∧ (parseMethodDescriptor yX3_copyFrom.desc).map (fun d => d.parameters.length) = some 1 := ⟨by decide +kernel, by decide +kernel, by decide +kernel⟩
theorem zd_X3_countRun : yX3_countRun.cls ≠ "java/lang/invoke/MethodHandle" ∧ yX3_countRun.cls ≠ "java/lang/invoke/VarHandle" ∧ (parseMethodDescriptor yX3_countRun.desc).map (fun d => d.parameters.length) = some 1 := ⟨by decide +kernel, by decide +kernel, by decide +kernel⟩
theorem zd_X3_tell : yX3_tell.cls ≠ "java/lang/invoke/MethodHandle" ∧ yX3_tell.cls ≠ "java/lang/invoke/VarHandle" ∧ (parseMethodDescriptor yX3_tell.desc).map (fun d => d.parameters.length) = some 1 := ⟨by decide +kernel, by decide +kernel, by decide +kernel⟩
theorem zd_X4_init : yX4_init.cls ≠ "java/lang/invoke/MethodHandle" ∧ yX4_init.cls ≠ "java/lang/invoke/VarHandle" ∧ (parseMethodDescriptor yX4_init.desc).map (fun d => d.parameters.length) = some 1 := ⟨by decide +kernel, by decide +kernel, by decide +kernel⟩
theorem zd_X4_copyFrom : yX4_copyFrom.cls ≠ "java/lang/invoke/MethodHandle" ∧ yX4_copyFrom.cls ≠ "java/lang/invoke/VarHandle" ∧ (parseMethodDescriptor yX4_copyFrom.desc).map (fun d => d.parameters.length) = some 1 := ⟨by decide +kernel, by decide +kernel, by decide +kernel⟩
theorem zd_X4_key : yX4_key.cls ≠ "java/lang/invoke/MethodHandle" ∧ yX4_key.cls ≠ "java/lang/invoke/VarHandle" ∧ (parseMethodDescriptor yX4_key.desc).map (fun d => d.parameters.length) = some 1 := ⟨by decide +kernel, by decide +kernel, by decide +kernel⟩
theorem zd_X4_waitsAt : yX4_waitsAt.cls ≠ "java/lang/invoke/MethodHandle" ∧ yX4_waitsAt.cls ≠ "java/lang/invoke/VarHandle" ∧ (parseMethodDescriptor yX4_waitsAt.desc).map (fun d => d.parameters.length) = some 2 := ⟨by decide +kernel, by decide +kernel, by decide +kernel⟩
theorem zd_X4_isThrough : yX4_isThrough.cls ≠ "java/lang/invoke/MethodHandle" ∧ yX4_isThrough.cls ≠ "java/lang/invoke/VarHandle" ∧ (parseMethodDescriptor yX4_isThrough.desc).map (fun d => d.parameters.length) = some 0 := ⟨by decide +kernel, by decide +kernel, by decide +kernel⟩
theorem zd_X4_comesAhead : yX4_comesAhead.cls ≠ "java/lang/invoke/MethodHandle" ∧ yX4_comesAhead.cls ≠ "java/lang/invoke/VarHandle" ∧ (parseMethodDescriptor yX4_comesAhead.desc).map (fun d => d.parameters.length) = some 1 := ⟨by decide +kernel, by decide +kernel, by decide +kernel⟩
theorem zd_X4_inheritsAhead : yX4_inheritsAhead.cls ≠ "java/lang/invoke/MethodHandle" ∧ yX4_inheritsAhead.cls ≠ "java/lang/invoke/VarHandle" ∧ (parseMethodDescriptor yX4_inheritsAhead.desc).map (fun d => d.parameters.length) = some 1 := ⟨by decide +kernel, by decide +kernel, by decide +kernel⟩
theorem zd_X4_addTime : yX4_addTime.cls ≠ "java/lang/invoke/MethodHandle" ∧ yX4_addTime.cls ≠ "java/lang/invoke/VarHandle" ∧ (parseMethodDescriptor yX4_addTime.desc).map (fun d => d.parameters.length) = some 0 := ⟨by decide +kernel, by decide +kernel, by decide +kernel⟩
theorem zd_X4_countTickOfStep : yX4_countTickOfStep.cls ≠ "java/lang/invoke/MethodHandle" ∧ yX4_countTickOfStep.cls ≠ "java/lang/invoke/VarHandle" ∧ (parseMethodDescriptor yX4_countTickOfStep.desc).map (fun d => d.parameters.length) = some 0 := ⟨by decide +kernel, by decide +kernel, by decide +kernel⟩
theorem zd_X5_init : yX5_init.cls ≠ "java/lang/invoke/MethodHandle" ∧ yX5_init.cls ≠ "java/lang/invoke/VarHandle" ∧ (parseMethodDescriptor yX5_init.desc).map (fun d => d.parameters.length) = some 0 := ⟨by decide +kernel, by decide +kernel, by decide +kernel⟩
theorem zd_X5_copyFrom : yX5_copyFrom.cls ≠ "java/lang/invoke/MethodHandle" ∧ yX5_copyFrom.cls ≠ "java/lang/invoke/VarHandle" ∧ (parseMethodDescriptor yX5_copyFrom.desc).map (fun d => d.parameters.length) = some 1 := ⟨by decide +kernel, by decide +kernel, by decide +kernel⟩
theorem zd_X5_note : yX5_note.cls ≠ "java/lang/invoke/MethodHandle" ∧ yX5_note.cls ≠ "java/lang/invoke/VarHandle" ∧ (parseMethodDescriptor yX5_note.desc).map (fun d => d.parameters.length) = some 3 := ⟨by decide +kernel, by decide +kernel, by decide +kernel⟩
theorem zd_X5_countOffer : yX5_countOffer.cls ≠ "java/lang/invoke/MethodHandle" ∧ yX5_countOffer.cls ≠ "java/lang/invoke/VarHandle" ∧ (parseMethodDescriptor yX5_countOffer.desc).map (fun d => d.parameters.length) = some 1 := ⟨by decide +kernel, by decide +kernel, by decide +kernel⟩
theorem zd_X5_ranIn : yX5_ranIn.cls ≠ "java/lang/invoke/MethodHandle" ∧ yX5_ranIn.cls ≠ "java/lang/invoke/VarHandle" ∧ (parseMethodDescriptor yX5_ranIn.desc).map (fun d => d.parameters.length) = some 2 := ⟨by decide +kernel, by decide +kernel, by decide +kernel⟩
theorem zd_X6_init : yX6_init.cls ≠ "java/lang/invoke/MethodHandle" ∧ yX6_init.cls ≠ "java/lang/invoke/VarHandle" ∧ (parseMethodDescriptor yX6_init.desc).map (fun d => d.parameters.length) = some 0 := ⟨by decide +kernel, by decide +kernel, by decide +kernel⟩
theorem zd_X6_setProcessors : yX6_setProcessors.cls ≠ "java/lang/invoke/MethodHandle" ∧ yX6_setProcessors.cls ≠ "java/lang/invoke/VarHandle" ∧ (parseMethodDescriptor yX6_setProcessors.desc).map (fun d => d.parameters.length) = some 1 := ⟨by decide +kernel, by decide +kernel, by decide +kernel⟩
theorem zd_X6_setWay : yX6_setWay.cls ≠ "java/lang/invoke/MethodHandle" ∧ yX6_setWay.cls ≠ "java/lang/invoke/VarHandle" ∧ (parseMethodDescriptor yX6_setWay.desc).map (fun d => d.parameters.length) = some 3 := ⟨by decide +kernel, by decide +kernel, by decide +kernel⟩
theorem zd_X6_setQuota : yX6_setQuota.cls ≠ "java/lang/invoke/MethodHandle" ∧ yX6_setQuota.cls ≠ "java/lang/invoke/VarHandle" ∧ (parseMethodDescriptor yX6_setQuota.desc).map (fun d => d.parameters.length) = some 2 := ⟨by decide +kernel, by decide +kernel, by decide +kernel⟩
theorem zd_X6_setPeriod : yX6_setPeriod.cls ≠ "java/lang/invoke/MethodHandle" ∧ yX6_setPeriod.cls ≠ "java/lang/invoke/VarHandle" ∧ (parseMethodDescriptor yX6_setPeriod.desc).map (fun d => d.parameters.length) = some 1 := ⟨by decide +kernel, by decide +kernel, by decide +kernel⟩
theorem zd_X6_addTask : yX6_addTask.cls ≠ "java/lang/invoke/MethodHandle" ∧ yX6_addTask.cls ≠ "java/lang/invoke/VarHandle" ∧ (parseMethodDescriptor yX6_addTask.desc).map (fun d => d.parameters.length) = some 3 := ⟨by decide +kernel, by decide +kernel, by decide +kernel⟩
theorem zd_X6_addStep : yX6_addStep.cls ≠ "java/lang/invoke/MethodHandle" ∧ yX6_addStep.cls ≠ "java/lang/invoke/VarHandle" ∧ (parseMethodDescriptor yX6_addStep.desc).map (fun d => d.parameters.length) = some 3 := ⟨by decide +kernel, by decide +kernel, by decide +kernel⟩
theorem zd_X6_start : yX6_start.cls ≠ "java/lang/invoke/MethodHandle" ∧ yX6_start.cls ≠ "java/lang/invoke/VarHandle" ∧ (parseMethodDescriptor yX6_start.desc).map (fun d => d.parameters.length) = some 1 := ⟨by decide +kernel, by decide +kernel, by decide +kernel⟩
theorem zd_X6_setRank : yX6_setRank.cls ≠ "java/lang/invoke/MethodHandle" ∧ yX6_setRank.cls ≠ "java/lang/invoke/VarHandle" ∧ (parseMethodDescriptor yX6_setRank.desc).map (fun d => d.parameters.length) = some 2 := ⟨by decide +kernel, by decide +kernel, by decide +kernel⟩
theorem zd_X6_end : yX6_end.cls ≠ "java/lang/invoke/MethodHandle" ∧ yX6_end.cls ≠ "java/lang/invoke/VarHandle" ∧ (parseMethodDescriptor yX6_end.desc).map (fun d => d.parameters.length) = some 1 := ⟨by decide +kernel, by decide +kernel, by decide +kernel⟩
theorem zd_X6_signal : yX6_signal.cls ≠ "java/lang/invoke/MethodHandle" ∧ yX6_signal.cls ≠ "java/lang/invoke/VarHandle" ∧ (parseMethodDescriptor yX6_signal.desc).map (fun d => d.parameters.length) = some 1 := ⟨by decide +kernel, by decide +kernel, by decide +kernel⟩
theorem zd_X6_tick : yX6_tick.cls ≠ "java/lang/invoke/MethodHandle" ∧ yX6_tick.cls ≠ "java/lang/invoke/VarHandle" ∧ (parseMethodDescriptor yX6_tick.desc).map (fun d => d.parameters.length) = some 1 := ⟨by decide +kernel, by decide +kernel, by decide +kernel⟩
theorem zd_X6_clock : yX6_clock.cls ≠ "java/lang/invoke/MethodHandle" ∧ yX6_clock.cls ≠ "java/lang/invoke/VarHandle" ∧ (parseMethodDescriptor yX6_clock.desc).map (fun d => d.parameters.length) = some 0 := ⟨by decide +kernel, by decide +kernel, by decide +kernel⟩
theorem zd_X6_tasks : yX6_tasks.cls ≠ "java/lang/invoke/MethodHandle" ∧ yX6_tasks.cls ≠ "java/lang/invoke/VarHandle" ∧ (parseMethodDescriptor yX6_tasks.desc).map (fun d => d.parameters.length) = some 0 := ⟨by decide +kernel, by decide +kernel, by decide +kernel⟩
theorem zd_X6_stateOf : yX6_stateOf.cls ≠ "java/lang/invoke/MethodHandle" ∧ yX6_stateOf.cls ≠ "java/lang/invoke/VarHandle" ∧ (parseMethodDescriptor yX6_stateOf.desc).map (fun d => d.parameters.length) = some 1 := ⟨by decide +kernel, by decide +kernel, by decide +kernel⟩
theorem zd_X6_stepOf : yX6_stepOf.cls ≠ "java/lang/invoke/MethodHandle" ∧ yX6_stepOf.cls ≠ "java/lang/invoke/VarHandle" ∧ (parseMethodDescriptor yX6_stepOf.desc).map (fun d => d.parameters.length) = some 1 := ⟨by decide +kernel, by decide +kernel, by decide +kernel⟩
theorem zd_X6_roundsOf : yX6_roundsOf.cls ≠ "java/lang/invoke/MethodHandle" ∧ yX6_roundsOf.cls ≠ "java/lang/invoke/VarHandle" ∧ (parseMethodDescriptor yX6_roundsOf.desc).map (fun d => d.parameters.length) = some 1 := ⟨by decide +kernel, by decide +kernel, by decide +kernel⟩
theorem zd_X6_keyOf : yX6_keyOf.cls ≠ "java/lang/invoke/MethodHandle" ∧ yX6_keyOf.cls ≠ "java/lang/invoke/VarHandle" ∧ (parseMethodDescriptor yX6_keyOf.desc).map (fun d => d.parameters.length) = some 1 := ⟨by decide +kernel, by decide +kernel, by decide +kernel⟩
theorem zd_X6_lentKey : yX6_lentKey.cls ≠ "java/lang/invoke/MethodHandle" ∧ yX6_lentKey.cls ≠ "java/lang/invoke/VarHandle" ∧ (parseMethodDescriptor yX6_lentKey.desc).map (fun d => d.parameters.length) = some 1 := ⟨by decide +kernel, by decide +kernel, by decide +kernel⟩
theorem zd_X6_standOf : yX6_standOf.cls ≠ "java/lang/invoke/MethodHandle" ∧ yX6_standOf.cls ≠ "java/lang/invoke/VarHandle" ∧ (parseMethodDescriptor yX6_standOf.desc).map (fun d => d.parameters.length) = some 1 := ⟨by decide +kernel, by decide +kernel, by decide +kernel⟩
theorem zd_X6_levelOf : yX6_levelOf.cls ≠ "java/lang/invoke/MethodHandle" ∧ yX6_levelOf.cls ≠ "java/lang/invoke/VarHandle" ∧ (parseMethodDescriptor yX6_levelOf.desc).map (fun d => d.parameters.length) = some 1 := ⟨by decide +kernel, by decide +kernel, by decide +kernel⟩
theorem zd_X6_told : yX6_told.cls ≠ "java/lang/invoke/MethodHandle" ∧ yX6_told.cls ≠ "java/lang/invoke/VarHandle" ∧ (parseMethodDescriptor yX6_told.desc).map (fun d => d.parameters.length) = some 2 := ⟨by decide +kernel, by decide +kernel, by decide +kernel⟩
theorem zd_X6_processors : yX6_processors.cls ≠ "java/lang/invoke/MethodHandle" ∧ yX6_processors.cls ≠ "java/lang/invoke/VarHandle" ∧ (parseMethodDescriptor yX6_processors.desc).map (fun d => d.parameters.length) = some 0 := ⟨by decide +kernel, by decide +kernel, by decide +kernel⟩
theorem zd_X6_on : yX6_on.cls ≠ "java/lang/invoke/MethodHandle" ∧ yX6_on.cls ≠ "java/lang/invoke/VarHandle" ∧ (parseMethodDescriptor yX6_on.desc).map (fun d => d.parameters.length) = some 1 := ⟨by decide +kernel, by decide +kernel, by decide +kernel⟩
theorem zd_X6_ran : yX6_ran.cls ≠ "java/lang/invoke/MethodHandle" ∧ yX6_ran.cls ≠ "java/lang/invoke/VarHandle" ∧ (parseMethodDescriptor yX6_ran.desc).map (fun d => d.parameters.length) = some 2 := ⟨by decide +kernel, by decide +kernel, by decide +kernel⟩
theorem zd_X6_switches : yX6_switches.cls ≠ "java/lang/invoke/MethodHandle" ∧ yX6_switches.cls ≠ "java/lang/invoke/VarHandle" ∧ (parseMethodDescriptor yX6_switches.desc).map (fun d => d.parameters.length) = some 0 := ⟨by decide +kernel, by decide +kernel, by decide +kernel⟩
theorem zd_X6_idle : yX6_idle.cls ≠ "java/lang/invoke/MethodHandle" ∧ yX6_idle.cls ≠ "java/lang/invoke/VarHandle" ∧ (parseMethodDescriptor yX6_idle.desc).map (fun d => d.parameters.length) = some 0 := ⟨by decide +kernel, by decide +kernel, by decide +kernel⟩
theorem zd_X6_used : yX6_used.cls ≠ "java/lang/invoke/MethodHandle" ∧ yX6_used.cls ≠ "java/lang/invoke/VarHandle" ∧ (parseMethodDescriptor yX6_used.desc).map (fun d => d.parameters.length) = some 1 := ⟨by decide +kernel, by decide +kernel, by decide +kernel⟩
theorem zd_X6_holder : yX6_holder.cls ≠ "java/lang/invoke/MethodHandle" ∧ yX6_holder.cls ≠ "java/lang/invoke/VarHandle" ∧ (parseMethodDescriptor yX6_holder.desc).map (fun d => d.parameters.length) = some 1 := ⟨by decide +kernel, by decide +kernel, by decide +kernel⟩
theorem zd_X6_blocked : yX6_blocked.cls ≠ "java/lang/invoke/MethodHandle" ∧ yX6_blocked.cls ≠ "java/lang/invoke/VarHandle" ∧ (parseMethodDescriptor yX6_blocked.desc).map (fun d => d.parameters.length) = some 1 := ⟨by decide +kernel, by decide +kernel, by decide +kernel⟩
theorem zd_X6_number : yX6_number.cls ≠ "java/lang/invoke/MethodHandle" ∧ yX6_number.cls ≠ "java/lang/invoke/VarHandle" ∧ (parseMethodDescriptor yX6_number.desc).map (fun d => d.parameters.length) = some 1 := ⟨by decide +kernel, by decide +kernel, by decide +kernel⟩
theorem zd_X6_awaiting : yX6_awaiting.cls ≠ "java/lang/invoke/MethodHandle" ∧ yX6_awaiting.cls ≠ "java/lang/invoke/VarHandle" ∧ (parseMethodDescriptor yX6_awaiting.desc).map (fun d => d.parameters.length) = some 1 := ⟨by decide +kernel, by decide +kernel, by decide +kernel⟩
theorem zd_X6_stuck : yX6_stuck.cls ≠ "java/lang/invoke/MethodHandle" ∧ yX6_stuck.cls ≠ "java/lang/invoke/VarHandle" ∧ (parseMethodDescriptor yX6_stuck.desc).map (fun d => d.parameters.length) = some 0 := ⟨by decide +kernel, by decide +kernel, by decide +kernel⟩
theorem zd_X6_load : yX6_load.cls ≠ "java/lang/invoke/MethodHandle" ∧ yX6_load.cls ≠ "java/lang/invoke/VarHandle" ∧ (parseMethodDescriptor yX6_load.desc).map (fun d => d.parameters.length) = some 0 := ⟨by decide +kernel, by decide +kernel, by decide +kernel⟩
theorem zd_X6_doneIn : yX6_doneIn.cls ≠ "java/lang/invoke/MethodHandle" ∧ yX6_doneIn.cls ≠ "java/lang/invoke/VarHandle" ∧ (parseMethodDescriptor yX6_doneIn.desc).map (fun d => d.parameters.length) = some 2 := ⟨by decide +kernel, by decide +kernel, by decide +kernel⟩
theorem zd_X6_doneWith : yX6_doneWith.cls ≠ "java/lang/invoke/MethodHandle" ∧ yX6_doneWith.cls ≠ "java/lang/invoke/VarHandle" ∧ (parseMethodDescriptor yX6_doneWith.desc).map (fun d => d.parameters.length) = some 3 := ⟨by decide +kernel, by decide +kernel, by decide +kernel⟩
theorem zd_X6_idleIn : yX6_idleIn.cls ≠ "java/lang/invoke/MethodHandle" ∧ yX6_idleIn.cls ≠ "java/lang/invoke/VarHandle" ∧ (parseMethodDescriptor yX6_idleIn.desc).map (fun d => d.parameters.length) = some 1 := ⟨by decide +kernel, by decide +kernel, by decide +kernel⟩
theorem zd_X6_stuckIn : yX6_stuckIn.cls ≠ "java/lang/invoke/MethodHandle" ∧ yX6_stuckIn.cls ≠ "java/lang/invoke/VarHandle" ∧ (parseMethodDescriptor yX6_stuckIn.desc).map (fun d => d.parameters.length) = some 1 := ⟨by decide +kernel, by decide +kernel, by decide +kernel⟩
theorem zd_X6_digest : yX6_digest.cls ≠ "java/lang/invoke/MethodHandle" ∧ yX6_digest.cls ≠ "java/lang/invoke/VarHandle" ∧ (parseMethodDescriptor yX6_digest.desc).map (fun d => d.parameters.length) = some 0 := ⟨by decide +kernel, by decide +kernel, by decide +kernel⟩
theorem zd_X6_digestTask : yX6_digestTask.cls ≠ "java/lang/invoke/MethodHandle" ∧ yX6_digestTask.cls ≠ "java/lang/invoke/VarHandle" ∧ (parseMethodDescriptor yX6_digestTask.desc).map (fun d => d.parameters.length) = some 2 := ⟨by decide +kernel, by decide +kernel, by decide +kernel⟩
theorem zd_X6_digestProcessor : yX6_digestProcessor.cls ≠ "java/lang/invoke/MethodHandle" ∧ yX6_digestProcessor.cls ≠ "java/lang/invoke/VarHandle" ∧ (parseMethodDescriptor yX6_digestProcessor.desc).map (fun d => d.parameters.length) = some 2 := ⟨by decide +kernel, by decide +kernel, by decide +kernel⟩
theorem zd_X6_requireArgument : yX6_requireArgument.cls ≠ "java/lang/invoke/MethodHandle" ∧ yX6_requireArgument.cls ≠ "java/lang/invoke/VarHandle" ∧ (parseMethodDescriptor yX6_requireArgument.desc).map (fun d => d.parameters.length) = some 1 := ⟨by decide +kernel, by decide +kernel, by decide +kernel⟩
theorem zd_X6_requireState : yX6_requireState.cls ≠ "java/lang/invoke/MethodHandle" ∧ yX6_requireState.cls ≠ "java/lang/invoke/VarHandle" ∧ (parseMethodDescriptor yX6_requireState.desc).map (fun d => d.parameters.length) = some 1 := ⟨by decide +kernel, by decide +kernel, by decide +kernel⟩
theorem zd_X6_requireTicksTried : yX6_requireTicksTried.cls ≠ "java/lang/invoke/MethodHandle" ∧ yX6_requireTicksTried.cls ≠ "java/lang/invoke/VarHandle" ∧ (parseMethodDescriptor yX6_requireTicksTried.desc).map (fun d => d.parameters.length) = some 1 := ⟨by decide +kernel, by decide +kernel, by decide +kernel⟩
theorem zd_X6_requireLock : yX6_requireLock.cls ≠ "java/lang/invoke/MethodHandle" ∧ yX6_requireLock.cls ≠ "java/lang/invoke/VarHandle" ∧ (parseMethodDescriptor yX6_requireLock.desc).map (fun d => d.parameters.length) = some 1 := ⟨by decide +kernel, by decide +kernel, by decide +kernel⟩
theorem zd_X6_requireEvent : yX6_requireEvent.cls ≠ "java/lang/invoke/MethodHandle" ∧ yX6_requireEvent.cls ≠ "java/lang/invoke/VarHandle" ∧ (parseMethodDescriptor yX6_requireEvent.desc).map (fun d => d.parameters.length) = some 1 := ⟨by decide +kernel, by decide +kernel, by decide +kernel⟩
theorem zd_X6_requireProcessor : yX6_requireProcessor.cls ≠ "java/lang/invoke/MethodHandle" ∧ yX6_requireProcessor.cls ≠ "java/lang/invoke/VarHandle" ∧ (parseMethodDescriptor yX6_requireProcessor.desc).map (fun d => d.parameters.length) = some 1 := ⟨by decide +kernel, by decide +kernel, by decide +kernel⟩
theorem zd_X6_requireTask : yX6_requireTask.cls ≠ "java/lang/invoke/MethodHandle" ∧ yX6_requireTask.cls ≠ "java/lang/invoke/VarHandle" ∧ (parseMethodDescriptor yX6_requireTask.desc).map (fun d => d.parameters.length) = some 1 := ⟨by decide +kernel, by decide +kernel, by decide +kernel⟩
theorem zd_X6_isStep : yX6_isStep.cls ≠ "java/lang/invoke/MethodHandle" ∧ yX6_isStep.cls ≠ "java/lang/invoke/VarHandle" ∧ (parseMethodDescriptor yX6_isStep.desc).map (fun d => d.parameters.length) = some 2 := ⟨by decide +kernel, by decide +kernel, by decide +kernel⟩
theorem zd_L_below : yL_below.cls ≠ "java/lang/invoke/MethodHandle" ∧ yL_below.cls ≠ "java/lang/invoke/VarHandle" ∧ (parseMethodDescriptor yL_below.desc).map (fun d => d.parameters.length) = some 2 := ⟨by decide +kernel, by decide +kernel, by decide +kernel⟩
theorem zd_L_cell : yL_cell.cls ≠ "java/lang/invoke/MethodHandle" ∧ yL_cell.cls ≠ "java/lang/invoke/VarHandle" ∧ (parseMethodDescriptor yL_cell.desc).map (fun d => d.parameters.length) = some 2 := ⟨by decide +kernel, by decide +kernel, by decide +kernel⟩
theorem zd_L_made : yL_made.cls ≠ "java/lang/invoke/MethodHandle" ∧ yL_made.cls ≠ "java/lang/invoke/VarHandle" ∧ (parseMethodDescriptor yL_made.desc).map (fun d => d.parameters.length) = some 3 := ⟨by decide +kernel, by decide +kernel, by decide +kernel⟩
theorem zd_L_set : yL_set.cls ≠ "java/lang/invoke/MethodHandle" ∧ yL_set.cls ≠ "java/lang/invoke/VarHandle" ∧ (parseMethodDescriptor yL_set.desc).map (fun d => d.parameters.length) = some 2 := ⟨by decide +kernel, by decide +kernel, by decide +kernel⟩
theorem zd_L_act : yL_act.cls ≠ "java/lang/invoke/MethodHandle" ∧ yL_act.cls ≠ "java/lang/invoke/VarHandle" ∧ (parseMethodDescriptor yL_act.desc).map (fun d => d.parameters.length) = some 3 := ⟨by decide +kernel, by decide +kernel, by decide +kernel⟩
theorem zd_L_ran : yL_ran.cls ≠ "java/lang/invoke/MethodHandle" ∧ yL_ran.cls ≠ "java/lang/invoke/VarHandle" ∧ (parseMethodDescriptor yL_ran.desc).map (fun d => d.parameters.length) = some 1 := ⟨by decide +kernel, by decide +kernel, by decide +kernel⟩
theorem zd_L_areTasksRight : yL_areTasksRight.cls ≠ "java/lang/invoke/MethodHandle" ∧ yL_areTasksRight.cls ≠ "java/lang/invoke/VarHandle" ∧ (parseMethodDescriptor yL_areTasksRight.desc).map (fun d => d.parameters.length) = some 1 := ⟨by decide +kernel, by decide +kernel, by decide +kernel⟩
theorem zd_L_arePlacesRight : yL_arePlacesRight.cls ≠ "java/lang/invoke/MethodHandle" ∧ yL_arePlacesRight.cls ≠ "java/lang/invoke/VarHandle" ∧ (parseMethodDescriptor yL_arePlacesRight.desc).map (fun d => d.parameters.length) = some 1 := ⟨by decide +kernel, by decide +kernel, by decide +kernel⟩
theorem zlc_X6_218 : (Jvm.Cond.constantLong RX6 218 58049) ∈ lw_tbl := List.mem_of_getElem? (i := 301) (by decide +kernel)
theorem zlc_X6_220 : (Jvm.Cond.constantLong RX6 220 31) ∈ lw_tbl := List.mem_of_getElem? (i := 302) (by decide +kernel)
def zit {α : Type} (f : α → α) : Nat → α → α
  | 0, x => x
  | n + 1, x => zit f n (f x)
section ZI
variable {G : zGm} {X : zCx} {own : String} {cc : ByteArray} {nL bc bs : Nat} {S : Nat → Prop} {ly : zLy} {τ : zTu} {σ M : zSg} {pc o N f : Nat} {ls : List (Option Value)} {st : List Value}
variable {l0 l1 l2 l3 l4 l5 l6 l7 l8 : Option Value}
theorem zV_d0 (k : zV G X nL bc bs S ly τ σ pc [none, l1, l2, l3, l4, l5, l6, l7, l8] st) : zV G X nL bc bs S ly τ σ pc [l0, l1, l2, l3, l4, l5, l6, l7, l8] st := zV_ls (fun i v h => by
  match i, h with
  | 0, h => cases h
  | 1, h => exact h
  | 2, h => exact h
  | 3, h => exact h
  | 4, h => exact h
  | 5, h => exact h
  | 6, h => exact h
  | 7, h => exact h
  | 8, h => exact h
  | i + 9, h => cases h) k
theorem zV_d1 (k : zV G X nL bc bs S ly τ σ pc [l0, none, l2, l3, l4, l5, l6, l7, l8] st) : zV G X nL bc bs S ly τ σ pc [l0, l1, l2, l3, l4, l5, l6, l7, l8] st := zV_ls (fun i v h => by
  match i, h with
  | 0, h => exact h
  | 1, h => cases h
  | 2, h => exact h
  | 3, h => exact h
  | 4, h => exact h
  | 5, h => exact h
  | 6, h => exact h
  | 7, h => exact h
  | 8, h => exact h
  | i + 9, h => cases h) k
theorem zV_d2 (k : zV G X nL bc bs S ly τ σ pc [l0, l1, none, l3, l4, l5, l6, l7, l8] st) : zV G X nL bc bs S ly τ σ pc [l0, l1, l2, l3, l4, l5, l6, l7, l8] st := zV_ls (fun i v h => by
  match i, h with
  | 0, h => exact h
  | 1, h => exact h
  | 2, h => cases h
  | 3, h => exact h
  | 4, h => exact h
  | 5, h => exact h
  | 6, h => exact h
  | 7, h => exact h
  | 8, h => exact h
  | i + 9, h => cases h) k
theorem zV_d3 (k : zV G X nL bc bs S ly τ σ pc [l0, l1, l2, none, l4, l5, l6, l7, l8] st) : zV G X nL bc bs S ly τ σ pc [l0, l1, l2, l3, l4, l5, l6, l7, l8] st := zV_ls (fun i v h => by
  match i, h with
  | 0, h => exact h
  | 1, h => exact h
  | 2, h => exact h
  | 3, h => cases h
  | 4, h => exact h
  | 5, h => exact h
  | 6, h => exact h
  | 7, h => exact h
  | 8, h => exact h
  | i + 9, h => cases h) k
theorem zV_d4 (k : zV G X nL bc bs S ly τ σ pc [l0, l1, l2, l3, none, l5, l6, l7, l8] st) : zV G X nL bc bs S ly τ σ pc [l0, l1, l2, l3, l4, l5, l6, l7, l8] st := zV_ls (fun i v h => by
  match i, h with
  | 0, h => exact h
  | 1, h => exact h
  | 2, h => exact h
  | 3, h => exact h
  | 4, h => cases h
  | 5, h => exact h
  | 6, h => exact h
  | 7, h => exact h
  | 8, h => exact h
  | i + 9, h => cases h) k
theorem zV_d5 (k : zV G X nL bc bs S ly τ σ pc [l0, l1, l2, l3, l4, none, l6, l7, l8] st) : zV G X nL bc bs S ly τ σ pc [l0, l1, l2, l3, l4, l5, l6, l7, l8] st := zV_ls (fun i v h => by
  match i, h with
  | 0, h => exact h
  | 1, h => exact h
  | 2, h => exact h
  | 3, h => exact h
  | 4, h => exact h
  | 5, h => cases h
  | 6, h => exact h
  | 7, h => exact h
  | 8, h => exact h
  | i + 9, h => cases h) k
theorem zV_d6 (k : zV G X nL bc bs S ly τ σ pc [l0, l1, l2, l3, l4, l5, none, l7, l8] st) : zV G X nL bc bs S ly τ σ pc [l0, l1, l2, l3, l4, l5, l6, l7, l8] st := zV_ls (fun i v h => by
  match i, h with
  | 0, h => exact h
  | 1, h => exact h
  | 2, h => exact h
  | 3, h => exact h
  | 4, h => exact h
  | 5, h => exact h
  | 6, h => cases h
  | 7, h => exact h
  | 8, h => exact h
  | i + 9, h => cases h) k
theorem zV_d7 (k : zV G X nL bc bs S ly τ σ pc [l0, l1, l2, l3, l4, l5, l6, none, l8] st) : zV G X nL bc bs S ly τ σ pc [l0, l1, l2, l3, l4, l5, l6, l7, l8] st := zV_ls (fun i v h => by
  match i, h with
  | 0, h => exact h
  | 1, h => exact h
  | 2, h => exact h
  | 3, h => exact h
  | 4, h => exact h
  | 5, h => exact h
  | 6, h => exact h
  | 7, h => cases h
  | 8, h => exact h
  | i + 9, h => cases h) k
theorem zV_d8 (k : zV G X nL bc bs S ly τ σ pc [l0, l1, l2, l3, l4, l5, l6, l7, none] st) : zV G X nL bc bs S ly τ σ pc [l0, l1, l2, l3, l4, l5, l6, l7, l8] st := zV_ls (fun i v h => by
  match i, h with
  | 0, h => exact h
  | 1, h => exact h
  | 2, h => exact h
  | 3, h => exact h
  | 4, h => exact h
  | 5, h => exact h
  | 6, h => exact h
  | 7, h => exact h
  | 8, h => cases h
  | i + 9, h => cases h) k
theorem zV_pc {pc' : Nat} (h : pc = pc') (k : zV G X nL bc bs S ly τ σ pc' ls st) : zV G X nL bc bs S ly τ σ pc ls st := by
  subst h
  exact k
end ZI
theorem zit_fix {α : Type} (f : α → α) {s : α} (h : f s = s) : ∀ n, zit f n s = s
  | 0 => rfl
  | n + 1 => by
    show zit f n (f s) = s
    rw [h]
    exact zit_fix f h n
theorem zit_add {α : Type} (f : α → α) : ∀ (a b : Nat) (s : α), zit f (a + b) s = zit f b (zit f a s)
  | 0, b, s => by rw [Nat.zero_add]; rfl
  | a + 1, b, s => by
    rw [Nat.succ_add]
    exact zit_add f a b (f s)
theorem zor_le {x y : Int32} (h : x ||| y = y) : x.toBitVec.toNat ≤ y.toBitVec.toNat := by
  rw [← h, Int32.toBitVec_or, BitVec.toNat_or]
  exact Nat.left_le_or
/-- a loop 'while (s != b) { b = s; s = f s }' of growing sets -/
theorem z_while {P : Int32 → Int32 → Prop} (f : Int32 → Int32) (hf : ∀ s, s ||| f s = f s) (s0 : Int32) (hstep : ∀ s b, ¬ s = b → P (f s) s → P s b) (hend : P (zit f 4294967296 s0) (zit f 4294967296 s0)) : P (f s0) s0 := by
  have key : ∀ (m k : Nat) (s : Int32), m + s.toBitVec.toNat = 4294967296 → zit f k s0 = s → k ≤ s.toBitVec.toNat → P (f s) s := by
    intro m
    induction m using Nat.strongRecOn with
    | ind m ih =>
      intro k s hm hk hle
      by_cases he : f s = s
      · have h1 : zit f 4294967296 s0 = s := by
          have : 4294967296 = k + (4294967296 - k) := by
            have := s.toBitVec.isLt
            omega
          rw [this, zit_add, hk]
          exact zit_fix f he _
        rw [h1] at hend
        rw [he]
        exact hend
      · refine hstep _ _ he ?_
        have h1 := zor_le (hf s)
        have h2 : s.toBitVec.toNat ≠ (f s).toBitVec.toNat := fun e => he (by
          have e2 : s.toBitVec = (f s).toBitVec := BitVec.eq_of_toNat_eq e
          have e3 := congrArg Int32.ofBitVec e2
          simpa using e3.symm)
        have h3 := (f s).toBitVec.isLt
        refine ih (4294967296 - (f s).toBitVec.toNat) (by omega) (k + 1) (f s) (by omega) ?_ (by omega)
        rw [zit_add, hk]
        rfl
  exact key (4294967296 - s0.toBitVec.toNat) 0 s0 (by have := s0.toBitVec.isLt; omega) rfl (Nat.zero_le _)
