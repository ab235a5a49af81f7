def Q_term (v a : Int32) (k n : Nat) (u u' : MT) : Prop := u' = mkM (thTerm v a) (mst u) (msk u) (mtk u) (mbe u) (mso u) (mle u) (man u) (mfc u) (mfg u) (if thTerm v a = 0 then upd (mfd u) v.toNatClampNeg a else (mfd u)) (mfo u) (mfs u)
set_option maxHeartbeats 400000 in
set_option maxRecDepth 100000 in
theorem m_term (l : Launch) (G : Gt) (sz mo ce gv dr go sa : Nat) (u u' : MT) (v a : Int32) (k n : Nat) (est : mst u = nI k) (hk30 : k ≤ 30) (esk : msk u = nI n) (hn6 : n ≤ 6) (hq : Q_term v a k n u u') : Met l yX2_term wsX2_term rmX2_term (mu_P G sz [.ref mo, .int v, .int a] (mw G mo ce gv dr go sa u)) (mu_Q G none (mw G mo ce gv dr go sa u') (va_A (mw G mo ce gv dr go sa u) sz)) 0 0 (va_A (mw G mo ce gv dr go sa u) sz) := by
  have e1 : u' = _ := hq
  subst e1
  exact c_X2_term l G sz mo ce gv dr go sa (mth u) (mst u) (msk u) (mtk u) (mbe u) (mso u) (mle u) (man u) (mfc u) (mfg u) (mfd u) (mfo u) (mfs u) v a

def Q_clear (k n : Nat) (u u' : MT) : Prop := u' = mkM 0 (mst u) (msk u) (mtk u) (mbe u) (mso u) (mle u) (man u) (mfc u) (mfg u) (mixf 10 (fun _ => 0) (mfd u)) (mfo u) (mfs u)
set_option maxHeartbeats 400000 in
set_option maxRecDepth 100000 in
theorem m_clear (l : Launch) (G : Gt) (sz mo ce gv dr go sa : Nat) (u u' : MT) (k n : Nat) (est : mst u = nI k) (hk30 : k ≤ 30) (esk : msk u = nI n) (hn6 : n ≤ 6) (hq : Q_clear  k n u u') : Met l yX2_clear wsX2_clear rmX2_clear (mu_P G sz [.ref mo] (mw G mo ce gv dr go sa u)) (mu_Q G none (mw G mo ce gv dr go sa u') (va_A (mw G mo ce gv dr go sa u) sz)) 0 0 (va_A (mw G mo ce gv dr go sa u) sz) := by
  have e1 : u' = _ := hq
  subst e1
  exact c_X2_clear l G sz mo ce gv dr go sa (mth u) (mst u) (msk u) (mtk u) (mbe u) (mso u) (mle u) (man u) (mfc u) (mfg u) (mfd u) (mfo u) (mfs u) 

def Q_require (x y : Int32) (k n : Nat) (u u' : MT) (r : Int32) : Prop := u' = mkM (thReq (mst u) (mtk u) x y) (if thReq (mst u) (mtk u) x y = 0 then (mst u) + 1 else (mst u)) (msk u) (mtk u) (mbe u) (mso u) (mle u) (man u) (if thReq (mst u) (mtk u) x y = 0 then cpy11 (nmC (mfc u) (mfd u) (snI x) (bdI x y)) 36 k else (mfc u)) (if thReq (mst u) (mtk u) x y = 0 then upd (mfg u) k 1 else (mfg u)) (if thReq (mst u) (mtk u) x y = 0 then mixf 10 (fun _ => 0) (mfd u) else (mfd u)) (mfo u) (mfs u) ∧ r = if thReq (mst u) (mtk u) x y = 0 then (mst u) + 1 - 1 else 0
set_option maxHeartbeats 400000 in
set_option maxRecDepth 100000 in
theorem m_require (l : Launch) (G : Gt) (sz mo ce gv dr go sa : Nat) (u u' : MT) (x y : Int32) (k n : Nat) (est : mst u = nI k) (hk30 : k ≤ 30) (esk : msk u = nI n) (hn6 : n ≤ 6) (r : Int32) (hq : Q_require x y k n u u' r) : Met l yX2_require wsX2_require rmX2_require (mu_P G sz [.ref mo, .int x, .int y] (mw G mo ce gv dr go sa u)) (mu_Q G (some (.int r)) (mw G mo ce gv dr go sa u') (va_A (mw G mo ce gv dr go sa u) sz)) 0 0 (va_A (mw G mo ce gv dr go sa u) sz) := by
  obtain ⟨e1, e2⟩ := hq
  subst e1
  subst e2
  exact c_X2_require l G sz mo ce gv dr go sa (mth u) (mst u) (msk u) (mtk u) (mbe u) (mso u) (mle u) (man u) (mfc u) (mfg u) (mfd u) (mfo u) (mfs u) x y k est hk30

def Q_objective (k n : Nat) (u u' : MT) : Prop := u' = mkM (thObj (mtk u)) (mst u) (msk u) (mtk u) (mbe u) (mso u) (mle u) (man u) (mfc u) (mfg u) (if thObj (mtk u) = 0 then mixf 10 (fun _ => 0) (mfd u) else (mfd u)) (if thObj (mtk u) = 0 then mixf 10 (mfd u) (mfo u) else (mfo u)) (mfs u)
set_option maxHeartbeats 400000 in
set_option maxRecDepth 100000 in
theorem m_objective (l : Launch) (G : Gt) (sz mo ce gv dr go sa : Nat) (u u' : MT) (k n : Nat) (est : mst u = nI k) (hk30 : k ≤ 30) (esk : msk u = nI n) (hn6 : n ≤ 6) (hq : Q_objective  k n u u') : Met l yX2_objective wsX2_objective rmX2_objective (mu_P G sz [.ref mo] (mw G mo ce gv dr go sa u)) (mu_Q G none (mw G mo ce gv dr go sa u') (va_A (mw G mo ce gv dr go sa u) sz)) 0 0 (va_A (mw G mo ce gv dr go sa u) sz) := by
  have e1 : u' = _ := hq
  subst e1
  exact c_X2_objective l G sz mo ce gv dr go sa (mth u) (mst u) (msk u) (mtk u) (mbe u) (mso u) (mle u) (man u) (mfc u) (mfg u) (mfd u) (mfo u) (mfs u) 

def Q_constraints (k n : Nat) (u u' : MT) (r : Int32) : Prop := u' = mkM 0 (mst u) (msk u) (mtk u) (mbe u) (mso u) (mle u) (man u) (mfc u) (mfg u) (mfd u) (mfo u) (mfs u) ∧ r = (mst u)
set_option maxHeartbeats 400000 in
set_option maxRecDepth 100000 in
theorem m_constraints (l : Launch) (G : Gt) (sz mo ce gv dr go sa : Nat) (u u' : MT) (k n : Nat) (est : mst u = nI k) (hk30 : k ≤ 30) (esk : msk u = nI n) (hn6 : n ≤ 6) (r : Int32) (hq : Q_constraints  k n u u' r) : Met l yX2_constraints wsX2_constraints rmX2_constraints (mu_P G sz [.ref mo] (mw G mo ce gv dr go sa u)) (mu_Q G (some (.int r)) (mw G mo ce gv dr go sa u') (va_A (mw G mo ce gv dr go sa u) sz)) 0 0 (va_A (mw G mo ce gv dr go sa u) sz) := by
  obtain ⟨e1, e2⟩ := hq
  subst e1
  subst e2
  exact c_X2_constraints l G sz mo ce gv dr go sa (mth u) (mst u) (msk u) (mtk u) (mbe u) (mso u) (mle u) (man u) (mfc u) (mfg u) (mfd u) (mfo u) (mfs u) 

def Q_constraint (x y : Int32) (k n : Nat) (u u' : MT) (r : Int32) : Prop := u' = mkM (thCon (mst u) x y) (mst u) (msk u) (mtk u) (mbe u) (mso u) (mle u) (man u) (mfc u) (mfg u) (mfd u) (mfo u) (mfs u) ∧ r = if thCon (mst u) x y = 0 then coR (mfc u) (mfg u) x y else 0
set_option maxHeartbeats 400000 in
set_option maxRecDepth 100000 in
theorem m_constraint (l : Launch) (G : Gt) (sz mo ce gv dr go sa : Nat) (u u' : MT) (x y : Int32) (k n : Nat) (est : mst u = nI k) (hk30 : k ≤ 30) (esk : msk u = nI n) (hn6 : n ≤ 6) (r : Int32) (hq : Q_constraint x y k n u u' r) : Met l yX2_constraint wsX2_constraint rmX2_constraint (mu_P G sz [.ref mo, .int x, .int y] (mw G mo ce gv dr go sa u)) (mu_Q G (some (.int r)) (mw G mo ce gv dr go sa u') (va_A (mw G mo ce gv dr go sa u) sz)) 0 0 (va_A (mw G mo ce gv dr go sa u) sz) := by
  obtain ⟨e1, e2⟩ := hq
  subst e1
  subst e2
  exact c_X2_constraint l G sz mo ce gv dr go sa (mth u) (mst u) (msk u) (mtk u) (mbe u) (mso u) (mle u) (man u) (mfc u) (mfg u) (mfd u) (mfo u) (mfs u) x y k est hk30

def Q_close (x y : Int32) (k n : Nat) (u u' : MT) (r : Int32) : Prop := u' = mkM (thClo x y) (mst u) (msk u) (mtk u) (mbe u) (mso u) (mle u) (man u) (mfc u) (mfg u) (mfd u) (mfo u) (if thClo x y = 0 then (clO (mfc u) k 0 (mixf 10 (st0 x y) (mfs u)) 12).1 else (mfs u)) ∧ r = if thClo x y = 0 then clM (mfc u) (mfs u) k x y else 0
set_option maxHeartbeats 400000 in
set_option maxRecDepth 100000 in
theorem m_close (l : Launch) (G : Gt) (sz mo ce gv dr go sa : Nat) (u u' : MT) (x y : Int32) (k n : Nat) (est : mst u = nI k) (hk30 : k ≤ 30) (esk : msk u = nI n) (hn6 : n ≤ 6) (r : Int32) (hq : Q_close x y k n u u' r) : Met l yX2_close wsX2_close rmX2_close (mu_P G sz [.ref mo, .int x, .int y] (mw G mo ce gv dr go sa u)) (mu_Q G (some (.int r)) (mw G mo ce gv dr go sa u') (va_A (mw G mo ce gv dr go sa u) sz)) 0 0 (va_A (mw G mo ce gv dr go sa u) sz) := by
  obtain ⟨e1, e2⟩ := hq
  subst e1
  subst e2
  exact c_X2_close l G sz mo ce gv dr go sa (mth u) (mst u) (msk u) (mtk u) (mbe u) (mso u) (mle u) (man u) (mfc u) (mfg u) (mfd u) (mfo u) (mfs u) x y k est hk30

def Q_load (x : Int32) (k n : Nat) (u u' : MT) : Prop := u' = mkM (thLoad (mst u) (msk u) x) (mst u) (if thLoad (mst u) (msk u) x = 0 then (msk u) + 1 else (msk u)) (mtk u) (mbe u) (mso u) (mle u) (man u) (if thLoad (mst u) (msk u) x = 0 then cpy11 (mfc u) x.toNatClampNeg (29 + (n + 1)) else (mfc u)) (mfg u) (mfd u) (mfo u) (mfs u)
set_option maxHeartbeats 400000 in
set_option maxRecDepth 100000 in
theorem m_load (l : Launch) (G : Gt) (sz mo ce gv dr go sa : Nat) (u u' : MT) (x : Int32) (k n : Nat) (est : mst u = nI k) (hk30 : k ≤ 30) (esk : msk u = nI n) (hn6 : n ≤ 6) (hq : Q_load x k n u u') : Met l yX2_load wsX2_load rmX2_load (mu_P G sz [.ref mo, .int x] (mw G mo ce gv dr go sa u)) (mu_Q G none (mw G mo ce gv dr go sa u') (va_A (mw G mo ce gv dr go sa u) sz)) 0 0 (va_A (mw G mo ce gv dr go sa u) sz) := by
  have e1 : u' = _ := hq
  subst e1
  exact c_X2_load l G sz mo ce gv dr go sa (mth u) (mst u) (msk u) (mtk u) (mbe u) (mso u) (mle u) (man u) (mfc u) (mfg u) (mfd u) (mfo u) (mfs u) x k est hk30 n esk hn6

def Q_axiom (x y : Int32) (k n : Nat) (u u' : MT) : Prop := u' = mkM (thAx (msk u) x) (mst u) (if thAx (msk u) x = 0 then (msk u) + 1 else (msk u)) (mtk u) (mbe u) (mso u) (mle u) (man u) (if thAx (msk u) x = 0 then axC (mfc u) (29 + (n + 1)) x.toNatClampNeg y else (mfc u)) (mfg u) (mfd u) (mfo u) (mfs u)
set_option maxHeartbeats 400000 in
set_option maxRecDepth 100000 in
theorem m_axiom (l : Launch) (G : Gt) (sz mo ce gv dr go sa : Nat) (u u' : MT) (x y : Int32) (k n : Nat) (est : mst u = nI k) (hk30 : k ≤ 30) (esk : msk u = nI n) (hn6 : n ≤ 6) (hq : Q_axiom x y k n u u') : Met l yX2_axiom wsX2_axiom rmX2_axiom (mu_P G sz [.ref mo, .int x, .int y] (mw G mo ce gv dr go sa u)) (mu_Q G none (mw G mo ce gv dr go sa u') (va_A (mw G mo ce gv dr go sa u) sz)) 0 0 (va_A (mw G mo ce gv dr go sa u) sz) := by
  have e1 : u' = _ := hq
  subst e1
  exact c_X2_axiom l G sz mo ce gv dr go sa (mth u) (mst u) (msk u) (mtk u) (mbe u) (mso u) (mle u) (man u) (mfc u) (mfg u) (mfd u) (mfo u) (mfs u) x y n esk hn6

def Q_add (k n : Nat) (u u' : MT) : Prop := u' = mkM (if thAdd (msk u) = 0 then thAdd2 (mfc u) (11 * (29 + n)) (11 * (28 + n)) else thAdd (msk u)) (mst u) (if thAdd (msk u) = 0 then (if thAdd2 (mfc u) (11 * (29 + n)) (11 * (28 + n)) = 0 then (msk u) - 1 else (msk u)) else (msk u)) (mtk u) (mbe u) (mso u) (mle u) (man u) (if thAdd (msk u) = 0 then (if thAdd2 (mfc u) (11 * (29 + n)) (11 * (28 + n)) = 0 then cpy11 (adC (mfc u) (11 * (29 + n)) (11 * (28 + n))) 36 (29 + (n - 1)) else adC (mfc u) (11 * (29 + n)) (11 * (28 + n))) else (mfc u)) (mfg u) (mfd u) (mfo u) (mfs u)
set_option maxHeartbeats 400000 in
set_option maxRecDepth 100000 in
theorem m_add (l : Launch) (G : Gt) (sz mo ce gv dr go sa : Nat) (u u' : MT) (k n : Nat) (est : mst u = nI k) (hk30 : k ≤ 30) (esk : msk u = nI n) (hn6 : n ≤ 6) (hq : Q_add  k n u u') : Met l yX2_add wsX2_add rmX2_add (mu_P G sz [.ref mo] (mw G mo ce gv dr go sa u)) (mu_Q G none (mw G mo ce gv dr go sa u') (va_A (mw G mo ce gv dr go sa u) sz)) 0 0 (va_A (mw G mo ce gv dr go sa u) sz) := by
  have e1 : u' = _ := hq
  subst e1
  exact c_X2_add l G sz mo ce gv dr go sa (mth u) (mst u) (msk u) (mtk u) (mbe u) (mso u) (mle u) (man u) (mfc u) (mfg u) (mfd u) (mfo u) (mfs u) n esk hn6

def Q_times (x : Int32) (k n : Nat) (u u' : MT) : Prop := u' = mkM (if thTim (msk u) x = 0 then thTim2 (mfc u) (29 + n) x else thTim (msk u) x) (mst u) (msk u) (mtk u) (mbe u) (mso u) (mle u) (man u) (if thTim (msk u) x = 0 then (if thTim2 (mfc u) (29 + n) x = 0 then cpy11 (tiC (mfc u) (29 + n) x) 36 (29 + n) else tiC (mfc u) (29 + n) x) else (mfc u)) (mfg u) (mfd u) (mfo u) (mfs u)
set_option maxHeartbeats 400000 in
set_option maxRecDepth 100000 in
theorem m_times (l : Launch) (G : Gt) (sz mo ce gv dr go sa : Nat) (u u' : MT) (x : Int32) (k n : Nat) (est : mst u = nI k) (hk30 : k ≤ 30) (esk : msk u = nI n) (hn6 : n ≤ 6) (hq : Q_times x k n u u') : Met l yX2_times wsX2_times rmX2_times (mu_P G sz [.ref mo, .int x] (mw G mo ce gv dr go sa u)) (mu_Q G none (mw G mo ce gv dr go sa u') (va_A (mw G mo ce gv dr go sa u) sz)) 0 0 (va_A (mw G mo ce gv dr go sa u) sz) := by
  have e1 : u' = _ := hq
  subst e1
  exact c_X2_times l G sz mo ce gv dr go sa (mth u) (mst u) (msk u) (mtk u) (mbe u) (mso u) (mle u) (man u) (mfc u) (mfg u) (mfd u) (mfo u) (mfs u) x n esk hn6

def Q_divide (x : Int32) (k n : Nat) (u u' : MT) : Prop := u' = mkM (thDiv (msk u) x) (mst u) (msk u) (mtk u) (mbe u) (mso u) (mle u) (man u) (if thDiv (msk u) x = 0 then dvC (mfc u) (29 + n) x else (mfc u)) (mfg u) (mfd u) (mfo u) (mfs u)
set_option maxHeartbeats 400000 in
set_option maxRecDepth 100000 in
theorem m_divide (l : Launch) (G : Gt) (sz mo ce gv dr go sa : Nat) (u u' : MT) (x : Int32) (k n : Nat) (est : mst u = nI k) (hk30 : k ≤ 30) (esk : msk u = nI n) (hn6 : n ≤ 6) (hq : Q_divide x k n u u') : Met l yX2_divide wsX2_divide rmX2_divide (mu_P G sz [.ref mo, .int x] (mw G mo ce gv dr go sa u)) (mu_Q G none (mw G mo ce gv dr go sa u') (va_A (mw G mo ce gv dr go sa u) sz)) 0 0 (va_A (mw G mo ce gv dr go sa u) sz) := by
  have e1 : u' = _ := hq
  subst e1
  exact c_X2_divide l G sz mo ce gv dr go sa (mth u) (mst u) (msk u) (mtk u) (mbe u) (mso u) (mle u) (man u) (mfc u) (mfg u) (mfd u) (mfo u) (mfs u) x n esk hn6

def Q_saturate (k n : Nat) (u u' : MT) : Prop := u' = mkM (thSat (msk u)) (mst u) (msk u) (mtk u) (mbe u) (mso u) (mle u) (man u) (if thSat (msk u) = 0 then saC (mfc u) (29 + n) else (mfc u)) (mfg u) (mfd u) (mfo u) (mfs u)
set_option maxHeartbeats 400000 in
set_option maxRecDepth 100000 in
theorem m_saturate (l : Launch) (G : Gt) (sz mo ce gv dr go sa : Nat) (u u' : MT) (k n : Nat) (est : mst u = nI k) (hk30 : k ≤ 30) (esk : msk u = nI n) (hn6 : n ≤ 6) (hq : Q_saturate  k n u u') : Met l yX2_saturate wsX2_saturate rmX2_saturate (mu_P G sz [.ref mo] (mw G mo ce gv dr go sa u)) (mu_Q G none (mw G mo ce gv dr go sa u') (va_A (mw G mo ce gv dr go sa u) sz)) 0 0 (va_A (mw G mo ce gv dr go sa u) sz) := by
  have e1 : u' = _ := hq
  subst e1
  exact c_X2_saturate l G sz mo ce gv dr go sa (mth u) (mst u) (msk u) (mtk u) (mbe u) (mso u) (mle u) (man u) (mfc u) (mfg u) (mfd u) (mfo u) (mfs u) n esk hn6

def Q_weaken (x : Int32) (k n : Nat) (u u' : MT) : Prop := u' = mkM (thWea (msk u) x) (mst u) (msk u) (mtk u) (mbe u) (mso u) (mle u) (man u) (if thWea (msk u) x = 0 then weC (mfc u) (29 + n) x.toNatClampNeg else (mfc u)) (mfg u) (mfd u) (mfo u) (mfs u)
set_option maxHeartbeats 400000 in
set_option maxRecDepth 100000 in
theorem m_weaken (l : Launch) (G : Gt) (sz mo ce gv dr go sa : Nat) (u u' : MT) (x : Int32) (k n : Nat) (est : mst u = nI k) (hk30 : k ≤ 30) (esk : msk u = nI n) (hn6 : n ≤ 6) (hq : Q_weaken x k n u u') : Met l yX2_weaken wsX2_weaken rmX2_weaken (mu_P G sz [.ref mo, .int x] (mw G mo ce gv dr go sa u)) (mu_Q G none (mw G mo ce gv dr go sa u') (va_A (mw G mo ce gv dr go sa u) sz)) 0 0 (va_A (mw G mo ce gv dr go sa u) sz) := by
  have e1 : u' = _ := hq
  subst e1
  exact c_X2_weaken l G sz mo ce gv dr go sa (mth u) (mst u) (msk u) (mtk u) (mbe u) (mso u) (mle u) (man u) (mfc u) (mfg u) (mfd u) (mfo u) (mfs u) x n esk hn6

def Q_drop (k n : Nat) (u u' : MT) : Prop := u' = mkM (thSat (msk u)) (mst u) (if thSat (msk u) = 0 then (msk u) - 1 else (msk u)) (mtk u) (mbe u) (mso u) (mle u) (man u) (mfc u) (mfg u) (mfd u) (mfo u) (mfs u)
set_option maxHeartbeats 400000 in
set_option maxRecDepth 100000 in
theorem m_drop (l : Launch) (G : Gt) (sz mo ce gv dr go sa : Nat) (u u' : MT) (k n : Nat) (est : mst u = nI k) (hk30 : k ≤ 30) (esk : msk u = nI n) (hn6 : n ≤ 6) (hq : Q_drop  k n u u') : Met l yX2_drop wsX2_drop rmX2_drop (mu_P G sz [.ref mo] (mw G mo ce gv dr go sa u)) (mu_Q G none (mw G mo ce gv dr go sa u') (va_A (mw G mo ce gv dr go sa u) sz)) 0 0 (va_A (mw G mo ce gv dr go sa u) sz) := by
  have e1 : u' = _ := hq
  subst e1
  exact c_X2_drop l G sz mo ce gv dr go sa (mth u) (mst u) (msk u) (mtk u) (mbe u) (mso u) (mle u) (man u) (mfc u) (mfg u) (mfd u) (mfo u) (mfs u) n esk hn6

def Q_top (x : Int32) (k n : Nat) (u u' : MT) (r : Int32) : Prop := u' = mkM (thTop (msk u) x) (mst u) (msk u) (mtk u) (mbe u) (mso u) (mle u) (man u) (mfc u) (mfg u) (mfd u) (mfo u) (mfs u) ∧ r = if thTop (msk u) x = 0 then tpR (mfc u) (29 + n) (msk u) x else 0
set_option maxHeartbeats 400000 in
set_option maxRecDepth 100000 in
theorem m_top (l : Launch) (G : Gt) (sz mo ce gv dr go sa : Nat) (u u' : MT) (x : Int32) (k n : Nat) (est : mst u = nI k) (hk30 : k ≤ 30) (esk : msk u = nI n) (hn6 : n ≤ 6) (r : Int32) (hq : Q_top x k n u u' r) : Met l yX2_top wsX2_top rmX2_top (mu_P G sz [.ref mo, .int x] (mw G mo ce gv dr go sa u)) (mu_Q G (some (.int r)) (mw G mo ce gv dr go sa u') (va_A (mw G mo ce gv dr go sa u) sz)) 0 0 (va_A (mw G mo ce gv dr go sa u) sz) := by
  obtain ⟨e1, e2⟩ := hq
  subst e1
  subst e2
  exact c_X2_top l G sz mo ce gv dr go sa (mth u) (mst u) (msk u) (mtk u) (mbe u) (mso u) (mle u) (man u) (mfc u) (mfg u) (mfd u) (mfo u) (mfs u) x n esk hn6

def Q_learn (k n : Nat) (u u' : MT) (r : Int32) : Prop := u' = mkM (thLea (msk u) (mst u)) (if thLea (msk u) (mst u) = 0 then (mst u) + 1 else (mst u)) (if thLea (msk u) (mst u) = 0 then (msk u) - 1 else (msk u)) (mtk u) (mbe u) (mso u) (mle u) (man u) (if thLea (msk u) (mst u) = 0 then cpy11 (mfc u) (29 + n) k else (mfc u)) (if thLea (msk u) (mst u) = 0 then upd (mfg u) k 0 else (mfg u)) (mfd u) (mfo u) (mfs u) ∧ r = if thLea (msk u) (mst u) = 0 then (mst u) + 1 - 1 else 0
set_option maxHeartbeats 400000 in
set_option maxRecDepth 100000 in
theorem m_learn (l : Launch) (G : Gt) (sz mo ce gv dr go sa : Nat) (u u' : MT) (k n : Nat) (est : mst u = nI k) (hk30 : k ≤ 30) (esk : msk u = nI n) (hn6 : n ≤ 6) (r : Int32) (hq : Q_learn  k n u u' r) : Met l yX2_learn wsX2_learn rmX2_learn (mu_P G sz [.ref mo] (mw G mo ce gv dr go sa u)) (mu_Q G (some (.int r)) (mw G mo ce gv dr go sa u') (va_A (mw G mo ce gv dr go sa u) sz)) 0 0 (va_A (mw G mo ce gv dr go sa u) sz) := by
  obtain ⟨e1, e2⟩ := hq
  subst e1
  subst e2
  exact c_X2_learn l G sz mo ce gv dr go sa (mth u) (mst u) (msk u) (mtk u) (mbe u) (mso u) (mle u) (man u) (mfc u) (mfg u) (mfd u) (mfo u) (mfs u) k est hk30 n esk hn6

def Q_contradict (x : Int32) (k n : Nat) (u u' : MT) (r : Int32) : Prop := u' = mkM (thCtr (mst u) x) (if thCtr (mst u) x = 0 then (if clB (ctC (nmC (mfc u) (mfd u) 1 x)) k 1 (mixf 10 (fun _ => -1) (mfs u)) = true then (mst u) else (mst u) + 1) else (mst u)) (msk u) (mtk u) (mbe u) (mso u) (mle u) (man u) (if thCtr (mst u) x = 0 then (if clB (ctC (nmC (mfc u) (mfd u) 1 x)) k 1 (mixf 10 (fun _ => -1) (mfs u)) = true then (ctC (nmC (mfc u) (mfd u) 1 x)) else cpy11 (ctC (nmC (mfc u) (mfd u) 1 x)) 36 k) else (mfc u)) (if thCtr (mst u) x = 0 then (if clB (ctC (nmC (mfc u) (mfd u) 1 x)) k 1 (mixf 10 (fun _ => -1) (mfs u)) = true then (mfg u) else upd (mfg u) k 0) else (mfg u)) (if thCtr (mst u) x = 0 then (if clB (ctC (nmC (mfc u) (mfd u) 1 x)) k 1 (mixf 10 (fun _ => -1) (mfs u)) = true then (mfd u) else mixf 10 (fun _ => 0) (mfd u)) else (mfd u)) (mfo u) (if thCtr (mst u) x = 0 then (clO (ctC (nmC (mfc u) (mfd u) 1 x)) k 1 (mixf 10 (fun _ => -1) (mfs u)) 12).1 else (mfs u)) ∧ r = if thCtr (mst u) x = 0 then (if clB (ctC (nmC (mfc u) (mfd u) 1 x)) k 1 (mixf 10 (fun _ => -1) (mfs u)) = true then -1 else (mst u) + 1 - 1) else 0
set_option maxHeartbeats 400000 in
set_option maxRecDepth 100000 in
theorem m_contradict (l : Launch) (G : Gt) (sz mo ce gv dr go sa : Nat) (u u' : MT) (x : Int32) (k n : Nat) (est : mst u = nI k) (hk30 : k ≤ 30) (esk : msk u = nI n) (hn6 : n ≤ 6) (r : Int32) (hq : Q_contradict x k n u u' r) : Met l yX2_contradict wsX2_contradict rmX2_contradict (mu_P G sz [.ref mo, .int x] (mw G mo ce gv dr go sa u)) (mu_Q G (some (.int r)) (mw G mo ce gv dr go sa u') (va_A (mw G mo ce gv dr go sa u) sz)) 0 0 (va_A (mw G mo ce gv dr go sa u) sz) := by
  obtain ⟨e1, e2⟩ := hq
  subst e1
  subst e2
  exact c_X2_contradict l G sz mo ce gv dr go sa (mth u) (mst u) (msk u) (mtk u) (mbe u) (mso u) (mle u) (man u) (mfc u) (mfg u) (mfd u) (mfo u) (mfs u) x k est hk30

def Q_found (x : Int32) (k n : Nat) (u u' : MT) (r : Int32) : Prop := u' = mkM (thFou (mst u) x) (if thFou (mst u) x = 0 then (if mtA (mfc u) x k = true then (if ngM (mfo u) = true then (mst u) else (mst u) + 1) else (mst u)) else (mst u)) (msk u) (if thFou (mst u) x = 0 then (if mtA (mfc u) x k = true then (if ngM (mfo u) = true then 1 else 1) else (mtk u)) else (mtk u)) (if thFou (mst u) x = 0 then (if mtA (mfc u) x k = true then (if ngM (mfo u) = true then wrM (mfo u) x else wrM (mfo u) x) else (mbe u)) else (mbe u)) (mso u) (mle u) (man u) (if thFou (mst u) x = 0 then (if mtA (mfc u) x k = true then (if ngM (mfo u) = true then (mfc u) else cpy11 (nmC (mfc u) (mfo u) (-1) (1 - wrM (mfo u) x)) 36 k) else (mfc u)) else (mfc u)) (if thFou (mst u) x = 0 then (if mtA (mfc u) x k = true then (if ngM (mfo u) = true then (mfg u) else upd (mfg u) k 0) else (mfg u)) else (mfg u)) (mfd u) (mfo u) (mfs u) ∧ r = if thFou (mst u) x = 0 then (if mtA (mfc u) x k = true then (if ngM (mfo u) = true then 1 else 1) else 0) else 0
set_option maxHeartbeats 400000 in
set_option maxRecDepth 100000 in
theorem m_found (l : Launch) (G : Gt) (sz mo ce gv dr go sa : Nat) (u u' : MT) (x : Int32) (k n : Nat) (est : mst u = nI k) (hk30 : k ≤ 30) (esk : msk u = nI n) (hn6 : n ≤ 6) (r : Int32) (hq : Q_found x k n u u' r) : Met l yX2_found wsX2_found rmX2_found (mu_P G sz [.ref mo, .int x] (mw G mo ce gv dr go sa u)) (mu_Q G (some (.int r)) (mw G mo ce gv dr go sa u') (va_A (mw G mo ce gv dr go sa u) sz)) 0 0 (va_A (mw G mo ce gv dr go sa u) sz) := by
  obtain ⟨e1, e2⟩ := hq
  subst e1
  subst e2
  exact c_X2_found l G sz mo ce gv dr go sa (mth u) (mst u) (msk u) (mtk u) (mbe u) (mso u) (mle u) (man u) (mfc u) (mfg u) (mfd u) (mfo u) (mfs u) x k est hk30

def Q_verdict (k n : Nat) (u u' : MT) (r : Int32) : Prop := u' = mkM 0 (mst u) (msk u) (mtk u) (mbe u) (mso u) (mle u) (man u) (mfc u) (mfg u) (mfd u) (mfo u) (mfs u) ∧ r = veR (mfc u) (mfo u) k (mtk u)
set_option maxHeartbeats 400000 in
set_option maxRecDepth 100000 in
theorem m_verdict (l : Launch) (G : Gt) (sz mo ce gv dr go sa : Nat) (u u' : MT) (k n : Nat) (est : mst u = nI k) (hk30 : k ≤ 30) (esk : msk u = nI n) (hn6 : n ≤ 6) (r : Int32) (hq : Q_verdict  k n u u' r) : Met l yX2_verdict wsX2_verdict rmX2_verdict (mu_P G sz [.ref mo] (mw G mo ce gv dr go sa u)) (mu_Q G (some (.int r)) (mw G mo ce gv dr go sa u') (va_A (mw G mo ce gv dr go sa u) sz)) 0 0 (va_A (mw G mo ce gv dr go sa u) sz) := by
  obtain ⟨e1, e2⟩ := hq
  subst e1
  subst e2
  exact c_X2_verdict l G sz mo ce gv dr go sa (mth u) (mst u) (msk u) (mtk u) (mbe u) (mso u) (mle u) (man u) (mfc u) (mfg u) (mfd u) (mfo u) (mfs u) k est hk30

def Q_best (k n : Nat) (u u' : MT) (r : Int32) : Prop := u' = mkM (thBst (mtk u)) (mst u) (msk u) (mtk u) (mbe u) (mso u) (mle u) (man u) (mfc u) (mfg u) (mfd u) (mfo u) (mfs u) ∧ r = if thBst (mtk u) = 0 then (mbe u) else 0
set_option maxHeartbeats 400000 in
set_option maxRecDepth 100000 in
theorem m_best (l : Launch) (G : Gt) (sz mo ce gv dr go sa : Nat) (u u' : MT) (k n : Nat) (est : mst u = nI k) (hk30 : k ≤ 30) (esk : msk u = nI n) (hn6 : n ≤ 6) (r : Int32) (hq : Q_best  k n u u' r) : Met l yX2_best wsX2_best rmX2_best (mu_P G sz [.ref mo] (mw G mo ce gv dr go sa u)) (mu_Q G (some (.int r)) (mw G mo ce gv dr go sa u') (va_A (mw G mo ce gv dr go sa u) sz)) 0 0 (va_A (mw G mo ce gv dr go sa u) sz) := by
  obtain ⟨e1, e2⟩ := hq
  subst e1
  subst e2
  exact c_X2_best l G sz mo ce gv dr go sa (mth u) (mst u) (msk u) (mtk u) (mbe u) (mso u) (mle u) (man u) (mfc u) (mfg u) (mfd u) (mfo u) (mfs u) 

def Q_least (k n : Nat) (u u' : MT) (r : Int32) : Prop := u' = mkM (thBst (mso u)) (mst u) (msk u) (mtk u) (mbe u) (mso u) (mle u) (man u) (mfc u) (mfg u) (mfd u) (mfo u) (mfs u) ∧ r = if thBst (mso u) = 0 then (mle u) else 0
set_option maxHeartbeats 400000 in
set_option maxRecDepth 100000 in
theorem m_least (l : Launch) (G : Gt) (sz mo ce gv dr go sa : Nat) (u u' : MT) (k n : Nat) (est : mst u = nI k) (hk30 : k ≤ 30) (esk : msk u = nI n) (hn6 : n ≤ 6) (r : Int32) (hq : Q_least  k n u u' r) : Met l yX2_least wsX2_least rmX2_least (mu_P G sz [.ref mo] (mw G mo ce gv dr go sa u)) (mu_Q G (some (.int r)) (mw G mo ce gv dr go sa u') (va_A (mw G mo ce gv dr go sa u) sz)) 0 0 (va_A (mw G mo ce gv dr go sa u) sz) := by
  obtain ⟨e1, e2⟩ := hq
  subst e1
  subst e2
  exact c_X2_least l G sz mo ce gv dr go sa (mth u) (mst u) (msk u) (mtk u) (mbe u) (mso u) (mle u) (man u) (mfc u) (mfg u) (mfd u) (mfo u) (mfs u) 

def Q_value (x : Int32) (k n : Nat) (u u' : MT) (r : Int32) : Prop := u' = mkM (thVal (mso u) x) (mst u) (msk u) (mtk u) (mbe u) (mso u) (mle u) (man u) (mfc u) (mfg u) (mfd u) (mfo u) (mfs u) ∧ r = if thVal (mso u) x = 0 then bitI (man u) x else 0
set_option maxHeartbeats 400000 in
set_option maxRecDepth 100000 in
theorem m_value (l : Launch) (G : Gt) (sz mo ce gv dr go sa : Nat) (u u' : MT) (x : Int32) (k n : Nat) (est : mst u = nI k) (hk30 : k ≤ 30) (esk : msk u = nI n) (hn6 : n ≤ 6) (r : Int32) (hq : Q_value x k n u u' r) : Met l yX2_value wsX2_value rmX2_value (mu_P G sz [.ref mo, .int x] (mw G mo ce gv dr go sa u)) (mu_Q G (some (.int r)) (mw G mo ce gv dr go sa u') (va_A (mw G mo ce gv dr go sa u) sz)) 0 0 (va_A (mw G mo ce gv dr go sa u) sz) := by
  obtain ⟨e1, e2⟩ := hq
  subst e1
  subst e2
  exact c_X2_value l G sz mo ce gv dr go sa (mth u) (mst u) (msk u) (mtk u) (mbe u) (mso u) (mle u) (man u) (mfc u) (mfg u) (mfd u) (mfo u) (mfs u) x

def Q_solve (N : Nat) (k n : Nat) (u u' : MT) (r : Int32) : Prop := u' = mkM 0 (mst u) (msk u) (mtk u) (mbe u) ((soO (mfc u) (mfg u) (mfo u) k (mle u) (man u) N).1) ((soO (mfc u) (mfg u) (mfo u) k (mle u) (man u) N).2.1) ((soO (mfc u) (mfg u) (mfo u) k (mle u) (man u) N).2.2) (mfc u) (mfg u) (mfd u) (mfo u) (mfs u) ∧ r = if (soO (mfc u) (mfg u) (mfo u) k (mle u) (man u) N).1 = 0 then 0 else 1
set_option maxHeartbeats 400000 in
set_option maxRecDepth 100000 in
theorem m_solve (l : Launch) (G : Gt) (sz mo ce gv dr go sa : Nat) (u u' : MT) (N : Nat) (k n : Nat) (est : mst u = nI k) (hk30 : k ≤ 30) (esk : msk u = nI n) (hn6 : n ≤ 6) (r : Int32) (hN24 : N = 1024) (hq : Q_solve N k n u u' r) : Met l yX2_solve wsX2_solve rmX2_solve (mu_P G sz [.ref mo] (mw G mo ce gv dr go sa u)) (mu_Q G (some (.int r)) (mw G mo ce gv dr go sa u') (va_A (mw G mo ce gv dr go sa u) sz)) 0 0 (va_A (mw G mo ce gv dr go sa u) sz) := by
  obtain ⟨e1, e2⟩ := hq
  subst e1
  subst e2
  exact c_X2_solve l G sz mo ce gv dr go sa (mth u) (mst u) (msk u) (mtk u) (mbe u) (mso u) (mle u) (man u) (mfc u) (mfg u) (mfd u) (mfo u) (mfs u) k est hk30 N hN24
