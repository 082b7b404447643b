/-! ===== the contracts of a hall's methods over the ghost (written by program) ===== -/
theorem h_X7_addHirer (l : Launch) (G : xG) (z a : Nat) (M : xV) (r0 : Int32) (M' : xV) (hz : z ≤ a) (hf : f_X8_addHirer M = some (r0, M')) : xMc l yX7_addHirer wsX7_addHirer 4 104 0 0 (KC2 G z) z [.ref a] (fun H => WH G a M H) (some (.int r0)) (fun H H1 => WH G a M' H1 ∧ XF (fun q => (a ≤ q ∧ q < a + 230)) H H1) := by
  refine xMc.exM (G := G) (fun U h => h.1) fun H hW => ?_
  obtain ⟨dv, v, hv, kv, tv, rv, vt, fv, wv, h_hl, h_bk, h_hs, h_hu, h_tx, h_tr, h_tb, h_tw, h_ws, r, h, ht, hc⟩ := hW
  obtain ⟨b, v', hv', kv', M2, e7, e8, r1, h1, m4, m0⟩ := s_addHirer r h dv
  cases hf.symm.trans e8
  refine ⟨_, _, ⟨h_hl, h_bk, h_hs, h_hu⟩, c_X7_addHirer l G z a dv v hv kv _ v' hv' kv' (by omega) (by omega) e7, fun H1 hpost => ?_⟩
  obtain ⟨n_bk, n_hs, n_hu, hfr⟩ := hpost
  exact ⟨⟨dv, v', hv', kv', tv, rv, vt, fv, wv, h_hl.kept hfr (fun q h1 h2 h3 => by (try dsimp only at h3); omega), n_bk, n_hs, n_hu, h_tx.kept hfr (fun q h1 h2 h3 => by (try dsimp only at h3); omega), h_tr.kept hfr (fun q h1 h2 h3 => by (try dsimp only at h3); omega), h_tb.kept hfr (fun q h1 h2 h3 => by (try dsimp only at h3); omega), h_tw.kept hfr (fun q h1 h2 h3 => by (try dsimp only at h3); omega), h_ws.kept hfr (fun q h1 h2 h3 => by (try dsimp only at h3); omega), r1, h1, ht.trans (m0 6 (by decide)).symm, CR.cong hc rfl (m0 4 (by decide))⟩, hfr.mono (fun q h => by (try dsimp only at h ⊢); omega)⟩
theorem h_X7_hirer (l : Launch) (G : xG) (z a : Nat) (M : xV) (p1 p2 : Int32) (r0 : Int32) (hf : f_X8_hirer M p1 p2 = some r0) : xMc l yX7_hirer wsX7_hirer 3 66 0 0 (KC2 G z) z [.ref a, .int p1, .int p2] (fun H => WH G a M H) (some (.int r0)) (fun H H1 => H1 = H) := by
  refine xMc.exM (G := G) (fun U h => h.1) fun H hW => ?_
  obtain ⟨dv, v, hv, kv, tv, rv, vt, fv, wv, h_hl, h_bk, h_hs, h_hu, h_tx, h_tr, h_tb, h_tw, h_ws, r, h, ht, hc⟩ := hW
  obtain ⟨b, e7, e8⟩ := s_hirer r dv p1 p2
  cases hf.symm.trans e8
  exact ⟨_, _, ⟨h_hl, h_bk⟩, c_X7_hirer l G z a dv v p1 p2 _ e7, fun H1 q => q⟩
theorem h_X7_pay (l : Launch) (G : xG) (z a : Nat) (M : xV) (p1 p2 : Int32) (r0 : Int32) (M' : xV) (hz : z ≤ a) (hf : f_X8_pay M p1 p2 = some (r0, M')) : xMc l yX7_pay wsX7_pay 4 104 0 0 (KC2 G z) z [.ref a, .int p1, .int p2] (fun H => WH G a M H) (some (.int r0)) (fun H H1 => WH G a M' H1 ∧ XF (fun q => (a ≤ q ∧ q < a + 230)) H H1) := by
  refine xMc.exM (G := G) (fun U h => h.1) fun H hW => ?_
  obtain ⟨dv, v, hv, kv, tv, rv, vt, fv, wv, h_hl, h_bk, h_hs, h_hu, h_tx, h_tr, h_tb, h_tw, h_ws, r, h, ht, hc⟩ := hW
  obtain ⟨b, v', hv', kv', M2, e7, e8, r1, h1, m4, m0⟩ := s_pay r h dv p1 p2
  cases hf.symm.trans e8
  refine ⟨_, _, ⟨h_hl, h_bk, h_hs, h_hu⟩, c_X7_pay l G z a dv v hv kv p1 p2 _ v' hv' kv' (by omega) (by omega) e7, fun H1 hpost => ?_⟩
  obtain ⟨n_bk, n_hs, n_hu, hfr⟩ := hpost
  exact ⟨⟨dv, v', hv', kv', tv, rv, vt, fv, wv, h_hl.kept hfr (fun q h1 h2 h3 => by (try dsimp only at h3); omega), n_bk, n_hs, n_hu, h_tx.kept hfr (fun q h1 h2 h3 => by (try dsimp only at h3); omega), h_tr.kept hfr (fun q h1 h2 h3 => by (try dsimp only at h3); omega), h_tb.kept hfr (fun q h1 h2 h3 => by (try dsimp only at h3); omega), h_tw.kept hfr (fun q h1 h2 h3 => by (try dsimp only at h3); omega), h_ws.kept hfr (fun q h1 h2 h3 => by (try dsimp only at h3); omega), r1, h1, ht.trans (m0 6 (by decide)).symm, CR.cong hc rfl (m0 4 (by decide))⟩, hfr.mono (fun q h => by (try dsimp only at h ⊢); omega)⟩
theorem h_X7_set (l : Launch) (G : xG) (z a : Nat) (M : xV) (p1 p2 : Int32) (r0 : Int32) (M' : xV) (hz : z ≤ a) (hf : f_X8_set M p1 p2 = some (r0, M')) : xMc l yX7_set wsX7_set 4 104 0 0 (KC2 G z) z [.ref a, .int p1, .int p2] (fun H => WH G a M H) (some (.int r0)) (fun H H1 => WH G a M' H1 ∧ XF (fun q => (a ≤ q ∧ q < a + 230)) H H1) := by
  refine xMc.exC fun H hW => ?_
  obtain ⟨dv, v, hv, kv, tv, rv, vt, fv, wv, h_hl, h_bk, h_hs, h_hu, h_tx, h_tr, h_tb, h_tw, h_ws, r, h, ht, hc⟩ := hW
  obtain ⟨b, v', hv', kv', M2, e7, e8, r1, h1, m4, m0⟩ := s_set r h dv p1 p2
  cases hf.symm.trans e8
  refine ⟨_, _, ⟨h_hl, h_bk, h_hs, h_hu⟩, c2_X7_set l G z a dv v hv kv p1 p2 _ v' hv' kv' (by omega) (by omega) e7, fun H1 hpost => ?_⟩
  obtain ⟨n_bk, n_hs, n_hu, hfr⟩ := hpost
  exact ⟨⟨dv, v', hv', kv', tv, rv, vt, fv, wv, h_hl.kept hfr (fun q h1 h2 h3 => by (try dsimp only at h3); omega), n_bk, n_hs, n_hu, h_tx.kept hfr (fun q h1 h2 h3 => by (try dsimp only at h3); omega), h_tr.kept hfr (fun q h1 h2 h3 => by (try dsimp only at h3); omega), h_tb.kept hfr (fun q h1 h2 h3 => by (try dsimp only at h3); omega), h_tw.kept hfr (fun q h1 h2 h3 => by (try dsimp only at h3); omega), h_ws.kept hfr (fun q h1 h2 h3 => by (try dsimp only at h3); omega), r1, h1, ht.trans (m0 6 (by decide)).symm, CR.cong hc rfl (m0 4 (by decide))⟩, hfr.mono (fun q h => by (try dsimp only at h ⊢); omega)⟩
theorem h_X7_hire (l : Launch) (G : xG) (z a : Nat) (M : xV) (p1 p2 p3 p4 p5 p6 : Int32) (r0 : Int32) (M' : xV) (hz : z ≤ a) (hf : f_X8_hire M p1 p2 p3 p4 p5 p6 = some (r0, M')) : xMc l yX7_hire wsX7_hire 4 111 0 0 (KC2 G z) z [.ref a, .int p1, .int p2, .int p3, .int p4, .int p5, .int p6] (fun H => WH G a M H) (some (.int r0)) (fun H H1 => WH G a M' H1 ∧ XF (fun q => (a ≤ q ∧ q < a + 230)) H H1) := by
  refine xMc.exM (G := G) (fun U h => h.1) fun H hW => ?_
  obtain ⟨dv, v, hv, kv, tv, rv, vt, fv, wv, h_hl, h_bk, h_hs, h_hu, h_tx, h_tr, h_tb, h_tw, h_ws, r, h, ht, hc⟩ := hW
  obtain ⟨b, dv', v', hv', kv', wv', M2, e7, e8, r1, h1, c1, m4, m6⟩ := s_hire r h hc wv p1 p2 p3 p4 p5 p6
  cases hf.symm.trans e8
  refine ⟨_, _, ⟨h_hl, h_bk, h_hs, h_hu, h_ws⟩, c_X7_hire l G z a dv v hv kv wv p1 p2 p3 p4 p5 p6 _ dv' v' hv' kv' wv' (by omega) (by omega) (by omega) (by omega) e7, fun H1 hpost => ?_⟩
  obtain ⟨n_hl, n_bk, n_hs, n_hu, n_ws, hfr⟩ := hpost
  exact ⟨⟨dv', v', hv', kv', tv, rv, vt, fv, wv', n_hl, n_bk, n_hs, n_hu, h_tx.kept hfr (fun q h1 h2 h3 => by (try dsimp only at h3); omega), h_tr.kept hfr (fun q h1 h2 h3 => by (try dsimp only at h3); omega), h_tb.kept hfr (fun q h1 h2 h3 => by (try dsimp only at h3); omega), h_tw.kept hfr (fun q h1 h2 h3 => by (try dsimp only at h3); omega), n_ws, r1, h1, ht.trans m6.symm, c1⟩, hfr.mono (fun q h => by (try dsimp only at h ⊢); omega)⟩
theorem h_X7_clash (l : Launch) (G : xG) (z a : Nat) (M : xV) (r0 : Int32) (hf : f_X8_clash M = some r0) : xMc l yX7_clash wsX7_clash 0 0 0 0 (KC2 G z) z [.ref a] (fun H => WH G a M H) (some (.int r0)) (fun H H1 => H1 = H) := by
  refine xMc.exM (G := G) (fun U h => h.1) fun H hW => ?_
  obtain ⟨dv, v, hv, kv, tv, rv, vt, fv, wv, h_hl, h_bk, h_hs, h_hu, h_tx, h_tr, h_tb, h_tw, h_ws, r, h, ht, hc⟩ := hW
  obtain ⟨b, e7, e8⟩ := s_clash hc
  cases hf.symm.trans e8
  exact ⟨_, _, h_hl, c_X7_clash l G z a dv _ e7, fun H1 q => q⟩
theorem h_X7_hireInfo (l : Launch) (G : xG) (z a : Nat) (M : xV) (p1 p2 : Int32) (r0 : Int32) (hf : f_X8_hireInfo M p1 p2 = some r0) : xMc l yX7_hireInfo wsX7_hireInfo 3 61 0 0 (KC2 G z) z [.ref a, .int p1, .int p2] (fun H => WH G a M H) (some (.int r0)) (fun H H1 => H1 = H) := by
  refine xMc.exM (G := G) (fun U h => h.1) fun H hW => ?_
  obtain ⟨dv, v, hv, kv, tv, rv, vt, fv, wv, h_hl, h_bk, h_hs, h_hu, h_tx, h_tr, h_tb, h_tw, h_ws, r, h, ht, hc⟩ := hW
  obtain ⟨b, e7, e8⟩ := s_hireInfo r dv p1 p2
  cases hf.symm.trans e8
  exact ⟨_, _, ⟨h_hl, h_bk⟩, c_X7_hireInfo l G z a dv v p1 p2 _ e7, fun H1 q => q⟩
theorem h_X7_session (l : Launch) (G : xG) (z a : Nat) (M : xV) (p1 p2 : Int32) (r0 : Int32) (hf : f_X8_session M p1 p2 = some r0) : xMc l yX7_session wsX7_session 2 44 0 0 (KC2 G z) z [.ref a, .int p1, .int p2] (fun H => WH G a M H) (some (.int r0)) (fun H H1 => H1 = H) := by
  refine xMc.exM (G := G) (fun U h => h.1) fun H hW => ?_
  obtain ⟨dv, v, hv, kv, tv, rv, vt, fv, wv, h_hl, h_bk, h_hs, h_hu, h_tx, h_tr, h_tb, h_tw, h_ws, r, h, ht, hc⟩ := hW
  obtain ⟨b, e7, e8⟩ := s_session r dv p1 p2
  cases hf.symm.trans e8
  exact ⟨_, _, ⟨h_hl, h_bk⟩, c_X7_session l G z a dv v p1 p2 _ e7, fun H1 q => q⟩
theorem h_X7_cancel (l : Launch) (G : xG) (z a : Nat) (M : xV) (p1 : Int32) (r0 : Int32) (M' : xV) (hz : z ≤ a) (hf : f_X8_cancel M p1 = some (r0, M')) : xMc l yX7_cancel wsX7_cancel 4 104 0 0 (KC2 G z) z [.ref a, .int p1] (fun H => WH G a M H) (some (.int r0)) (fun H H1 => WH G a M' H1 ∧ XF (fun q => (a ≤ q ∧ q < a + 230)) H H1) := by
  refine xMc.exM (G := G) (fun U h => h.1) fun H hW => ?_
  obtain ⟨dv, v, hv, kv, tv, rv, vt, fv, wv, h_hl, h_bk, h_hs, h_hu, h_tx, h_tr, h_tb, h_tw, h_ws, r, h, ht, hc⟩ := hW
  obtain ⟨b, v', hv', kv', M2, e7, e8, r1, h1, m4, m0⟩ := s_cancel r h dv p1
  cases hf.symm.trans e8
  refine ⟨_, _, ⟨h_hl, h_bk, h_hs, h_hu⟩, c_X7_cancel l G z a dv v hv kv p1 _ v' hv' kv' (by omega) (by omega) e7, fun H1 hpost => ?_⟩
  obtain ⟨n_bk, n_hs, n_hu, hfr⟩ := hpost
  exact ⟨⟨dv, v', hv', kv', tv, rv, vt, fv, wv, h_hl.kept hfr (fun q h1 h2 h3 => by (try dsimp only at h3); omega), n_bk, n_hs, n_hu, h_tx.kept hfr (fun q h1 h2 h3 => by (try dsimp only at h3); omega), h_tr.kept hfr (fun q h1 h2 h3 => by (try dsimp only at h3); omega), h_tb.kept hfr (fun q h1 h2 h3 => by (try dsimp only at h3); omega), h_tw.kept hfr (fun q h1 h2 h3 => by (try dsimp only at h3); omega), h_ws.kept hfr (fun q h1 h2 h3 => by (try dsimp only at h3); omega), r1, h1, ht.trans (m0 6 (by decide)).symm, CR.cong hc rfl (m0 4 (by decide))⟩, hfr.mono (fun q h => by (try dsimp only at h ⊢); omega)⟩
theorem h_X7_firstFree (l : Launch) (G : xG) (z a : Nat) (M : xV) (p1 p2 p3 p4 : Int32) (r0 : Int32) (hf : f_X8_firstFree M p1 p2 p3 p4 = some r0) : xMc l yX7_firstFree wsX7_firstFree 3 93 0 0 (KC2 G z) z [.ref a, .int p1, .int p2, .int p3, .int p4] (fun H => WH G a M H) (some (.int r0)) (fun H H1 => H1 = H) := by
  refine xMc.exM (G := G) (fun U h => h.1) fun H hW => ?_
  obtain ⟨dv, v, hv, kv, tv, rv, vt, fv, wv, h_hl, h_bk, h_hs, h_hu, h_tx, h_tr, h_tb, h_tw, h_ws, r, h, ht, hc⟩ := hW
  obtain ⟨b, e7, e8⟩ := s_firstFree r dv p1 p2 p3 p4
  cases hf.symm.trans e8
  exact ⟨_, _, ⟨h_hl, h_bk⟩, c_X7_firstFree l G z a dv v p1 p2 p3 p4 _ e7, fun H1 q => q⟩
theorem h_X7_inOrder (l : Launch) (G : xG) (z a : Nat) (M : xV) (p1 : Int32) (r0 : Int32) (hf : f_X8_inOrder M p1 = some r0) : xMc l yX7_inOrder wsX7_inOrder 4 97 0 0 (KC2 G z) z [.ref a, .int p1] (fun H => WH G a M H) (some (.int r0)) (fun H H1 => H1 = H) := by
  refine xMc.exM (G := G) (fun U h => h.1) fun H hW => ?_
  obtain ⟨dv, v, hv, kv, tv, rv, vt, fv, wv, h_hl, h_bk, h_hs, h_hu, h_tx, h_tr, h_tb, h_tw, h_ws, r, h, ht, hc⟩ := hW
  obtain ⟨b, e7, e8⟩ := s_inOrder r dv p1
  cases hf.symm.trans e8
  exact ⟨_, _, ⟨h_hl, h_bk⟩, c_X7_inOrder l G z a dv v p1 _ e7, fun H1 q => q⟩
theorem h_X7_pass (l : Launch) (G : xG) (z a : Nat) (M : xV) (p1 : Int32) (r0 : Int32) (M' : xV) (hz : z ≤ a) (hf : f_X8_pass M p1 = some (r0, M')) : xMc l yX7_pass wsX7_pass 5 119 0 0 (KC2 G z) z [.ref a, .int p1] (fun H => WH G a M H) (some (.int r0)) (fun H H1 => WH G a M' H1 ∧ XF (fun q => (a ≤ q ∧ q < a + 230)) H H1) := by
  refine xMc.exM (G := G) (fun U h => h.1) fun H hW => ?_
  obtain ⟨dv, v, hv, kv, tv, rv, vt, fv, wv, h_hl, h_bk, h_hs, h_hu, h_tx, h_tr, h_tb, h_tw, h_ws, r, h, ht, hc⟩ := hW
  obtain ⟨b, v', hv', kv', M2, e7, e8, r1, h1, m4, m0⟩ := s_pass r h dv p1
  cases hf.symm.trans e8
  refine ⟨_, _, ⟨h_hl, h_bk, h_hs, h_hu⟩, c_X7_pass l G z a dv v hv kv p1 _ v' hv' kv' (by omega) (by omega) e7, fun H1 hpost => ?_⟩
  obtain ⟨n_bk, n_hs, n_hu, hfr⟩ := hpost
  exact ⟨⟨dv, v', hv', kv', tv, rv, vt, fv, wv, h_hl.kept hfr (fun q h1 h2 h3 => by (try dsimp only at h3); omega), n_bk, n_hs, n_hu, h_tx.kept hfr (fun q h1 h2 h3 => by (try dsimp only at h3); omega), h_tr.kept hfr (fun q h1 h2 h3 => by (try dsimp only at h3); omega), h_tb.kept hfr (fun q h1 h2 h3 => by (try dsimp only at h3); omega), h_tw.kept hfr (fun q h1 h2 h3 => by (try dsimp only at h3); omega), h_ws.kept hfr (fun q h1 h2 h3 => by (try dsimp only at h3); omega), r1, h1, ht.trans (m0 6 (by decide)).symm, CR.cong hc rfl (m0 4 (by decide))⟩, hfr.mono (fun q h => by (try dsimp only at h ⊢); omega)⟩
theorem h_X7_count (l : Launch) (G : xG) (z a : Nat) (M : xV) (p1 : Int32) (r0 : Int32) (hf : f_X8_count M p1 = some r0) : xMc l yX7_count wsX7_count 3 86 0 0 (KC2 G z) z [.ref a, .int p1] (fun H => WH G a M H) (some (.int r0)) (fun H H1 => H1 = H) := by
  refine xMc.exM (G := G) (fun U h => h.1) fun H hW => ?_
  obtain ⟨dv, v, hv, kv, tv, rv, vt, fv, wv, h_hl, h_bk, h_hs, h_hu, h_tx, h_tr, h_tb, h_tw, h_ws, r, h, ht, hc⟩ := hW
  obtain ⟨b, e7, e8⟩ := s_count r h.cnt ht dv p1
  cases hf.symm.trans e8
  exact ⟨_, _, ⟨h_hl, h_bk, h_hs, h_tx⟩, c_X7_count l G z a dv v hv tv p1 _ e7, fun H1 q => q⟩
theorem h_X7_undo (l : Launch) (G : xG) (z a : Nat) (M : xV) (r0 : Int32) (M' : xV) (hz : z ≤ a) (hf : f_X8_undo M = some (r0, M')) : xMc l yX7_undo wsX7_undo 4 104 0 0 (KC2 G z) z [.ref a] (fun H => WH G a M H) (some (.int r0)) (fun H H1 => WH G a M' H1 ∧ XF (fun q => (a ≤ q ∧ q < a + 230)) H H1) := by
  refine xMc.exM (G := G) (fun U h => h.1) fun H hW => ?_
  obtain ⟨dv, v, hv, kv, tv, rv, vt, fv, wv, h_hl, h_bk, h_hs, h_hu, h_tx, h_tr, h_tb, h_tw, h_ws, r, h, ht, hc⟩ := hW
  obtain ⟨b, v', hv', M2, e7, e8, r1, h1, m4, m0⟩ := s_undo r h
  have e7 : f_X7_undo dv v hv kv = some (b, v', hv') := e7
  cases hf.symm.trans e8
  refine ⟨_, _, ⟨h_hl, h_bk, h_hs, h_hu⟩, c_X7_undo l G z a dv v hv kv _ v' hv' (by omega) (by omega) e7, fun H1 hpost => ?_⟩
  obtain ⟨n_bk, n_hs, hfr⟩ := hpost
  exact ⟨⟨dv, v', hv', kv, tv, rv, vt, fv, wv, h_hl.kept hfr (fun q h1 h2 h3 => by (try dsimp only at h3); omega), n_bk, n_hs, h_hu.kept hfr (fun q h1 h2 h3 => by (try dsimp only at h3); omega), h_tx.kept hfr (fun q h1 h2 h3 => by (try dsimp only at h3); omega), h_tr.kept hfr (fun q h1 h2 h3 => by (try dsimp only at h3); omega), h_tb.kept hfr (fun q h1 h2 h3 => by (try dsimp only at h3); omega), h_tw.kept hfr (fun q h1 h2 h3 => by (try dsimp only at h3); omega), h_ws.kept hfr (fun q h1 h2 h3 => by (try dsimp only at h3); omega), r1, h1, ht.trans (m0 6 (by decide)).symm, CR.cong hc rfl (m0 4 (by decide))⟩, hfr.mono (fun q h => by (try dsimp only at h ⊢); omega)⟩
theorem h_X7_lend (l : Launch) (G : xG) (z a : Nat) (M : xV) (p1 p2 : Int32) (r0 : Int32) (M' : xV) (hz : z ≤ a) (hf : f_X8_lend M p1 p2 = some (r0, M')) : xMc l yX7_lend wsX7_lend 4 104 0 0 (KC2 G z) z [.ref a, .int p1, .int p2] (fun H => WH G a M H) (some (.int r0)) (fun H H1 => WH G a M' H1 ∧ XF (fun q => (a ≤ q ∧ q < a + 230)) H H1) := by
  refine xMc.exM (G := G) (fun U h => h.1) fun H hW => ?_
  obtain ⟨dv, v, hv, kv, tv, rv, vt, fv, wv, h_hl, h_bk, h_hs, h_hu, h_tx, h_tr, h_tb, h_tw, h_ws, r, h, ht, hc⟩ := hW
  obtain ⟨b, v', hv', kv', M2, e7, e8, r1, h1, m4, m0⟩ := s_lend r h dv p1 p2
  cases hf.symm.trans e8
  refine ⟨_, _, ⟨h_hl, h_bk, h_hs, h_hu⟩, c_X7_lend l G z a dv v hv kv p1 p2 _ v' hv' kv' (by omega) (by omega) e7, fun H1 hpost => ?_⟩
  obtain ⟨n_bk, n_hs, n_hu, hfr⟩ := hpost
  exact ⟨⟨dv, v', hv', kv', tv, rv, vt, fv, wv, h_hl.kept hfr (fun q h1 h2 h3 => by (try dsimp only at h3); omega), n_bk, n_hs, n_hu, h_tx.kept hfr (fun q h1 h2 h3 => by (try dsimp only at h3); omega), h_tr.kept hfr (fun q h1 h2 h3 => by (try dsimp only at h3); omega), h_tb.kept hfr (fun q h1 h2 h3 => by (try dsimp only at h3); omega), h_tw.kept hfr (fun q h1 h2 h3 => by (try dsimp only at h3); omega), h_ws.kept hfr (fun q h1 h2 h3 => by (try dsimp only at h3); omega), r1, h1, ht.trans (m0 6 (by decide)).symm, CR.cong hc rfl (m0 4 (by decide))⟩, hfr.mono (fun q h => by (try dsimp only at h ⊢); omega)⟩
theorem h_X7_bringBack (l : Launch) (G : xG) (z a : Nat) (M : xV) (p1 : Int32) (r0 : Int32) (M' : xV) (hz : z ≤ a) (hf : f_X8_bringBack M p1 = some (r0, M')) : xMc l yX7_bringBack wsX7_bringBack 4 104 0 0 (KC2 G z) z [.ref a, .int p1] (fun H => WH G a M H) (some (.int r0)) (fun H H1 => WH G a M' H1 ∧ XF (fun q => (a ≤ q ∧ q < a + 230)) H H1) := by
  refine xMc.exM (G := G) (fun U h => h.1) fun H hW => ?_
  obtain ⟨dv, v, hv, kv, tv, rv, vt, fv, wv, h_hl, h_bk, h_hs, h_hu, h_tx, h_tr, h_tb, h_tw, h_ws, r, h, ht, hc⟩ := hW
  obtain ⟨b, v', hv', kv', M2, e7, e8, r1, h1, m4, m0⟩ := s_bringBack r h dv p1
  cases hf.symm.trans e8
  refine ⟨_, _, ⟨h_hl, h_bk, h_hs, h_hu⟩, c_X7_bringBack l G z a dv v hv kv p1 _ v' hv' kv' (by omega) (by omega) e7, fun H1 hpost => ?_⟩
  obtain ⟨n_bk, n_hs, n_hu, hfr⟩ := hpost
  exact ⟨⟨dv, v', hv', kv', tv, rv, vt, fv, wv, h_hl.kept hfr (fun q h1 h2 h3 => by (try dsimp only at h3); omega), n_bk, n_hs, n_hu, h_tx.kept hfr (fun q h1 h2 h3 => by (try dsimp only at h3); omega), h_tr.kept hfr (fun q h1 h2 h3 => by (try dsimp only at h3); omega), h_tb.kept hfr (fun q h1 h2 h3 => by (try dsimp only at h3); omega), h_tw.kept hfr (fun q h1 h2 h3 => by (try dsimp only at h3); omega), h_ws.kept hfr (fun q h1 h2 h3 => by (try dsimp only at h3); omega), r1, h1, ht.trans (m0 6 (by decide)).symm, CR.cong hc rfl (m0 4 (by decide))⟩, hfr.mono (fun q h => by (try dsimp only at h ⊢); omega)⟩
theorem h_X7_report (l : Launch) (G : xG) (z a : Nat) (M : xV) (p1 p2 : Int32) (r0 : Int32) (M' : xV) (hz : z ≤ a) (hf : f_X8_report M p1 p2 = some (r0, M')) : xMc l yX7_report wsX7_report 4 104 0 0 (KC2 G z) z [.ref a, .int p1, .int p2] (fun H => WH G a M H) (some (.int r0)) (fun H H1 => WH G a M' H1 ∧ XF (fun q => (a ≤ q ∧ q < a + 230)) H H1) := by
  refine xMc.exM (G := G) (fun U h => h.1) fun H hW => ?_
  obtain ⟨dv, v, hv, kv, tv, rv, vt, fv, wv, h_hl, h_bk, h_hs, h_hu, h_tx, h_tr, h_tb, h_tw, h_ws, r, h, ht, hc⟩ := hW
  obtain ⟨b, v', hv', kv', M2, e7, e8, r1, h1, m4, m0⟩ := s_report r h dv p1 p2
  cases hf.symm.trans e8
  refine ⟨_, _, ⟨h_hl, h_bk, h_hs, h_hu⟩, c_X7_report l G z a dv v hv kv p1 p2 _ v' hv' kv' (by omega) (by omega) e7, fun H1 hpost => ?_⟩
  obtain ⟨n_bk, n_hs, n_hu, hfr⟩ := hpost
  exact ⟨⟨dv, v', hv', kv', tv, rv, vt, fv, wv, h_hl.kept hfr (fun q h1 h2 h3 => by (try dsimp only at h3); omega), n_bk, n_hs, n_hu, h_tx.kept hfr (fun q h1 h2 h3 => by (try dsimp only at h3); omega), h_tr.kept hfr (fun q h1 h2 h3 => by (try dsimp only at h3); omega), h_tb.kept hfr (fun q h1 h2 h3 => by (try dsimp only at h3); omega), h_tw.kept hfr (fun q h1 h2 h3 => by (try dsimp only at h3); omega), h_ws.kept hfr (fun q h1 h2 h3 => by (try dsimp only at h3); omega), r1, h1, ht.trans (m0 6 (by decide)).symm, CR.cong hc rfl (m0 4 (by decide))⟩, hfr.mono (fun q h => by (try dsimp only at h ⊢); omega)⟩
theorem h_X7_settle (l : Launch) (G : xG) (z a : Nat) (M : xV) (p1 : Int32) (r0 : Int32) (M' : xV) (hz : z ≤ a) (hf : f_X8_settle M p1 = some (r0, M')) : xMc l yX7_settle wsX7_settle 4 104 0 0 (KC2 G z) z [.ref a, .int p1] (fun H => WH G a M H) (some (.int r0)) (fun H H1 => WH G a M' H1 ∧ XF (fun q => (a ≤ q ∧ q < a + 230)) H H1) := by
  refine xMc.exM (G := G) (fun U h => h.1) fun H hW => ?_
  obtain ⟨dv, v, hv, kv, tv, rv, vt, fv, wv, h_hl, h_bk, h_hs, h_hu, h_tx, h_tr, h_tb, h_tw, h_ws, r, h, ht, hc⟩ := hW
  obtain ⟨b, v', hv', kv', M2, e7, e8, r1, h1, m4, m0⟩ := s_settle r h dv p1
  cases hf.symm.trans e8
  refine ⟨_, _, ⟨h_hl, h_bk, h_hs, h_hu⟩, c_X7_settle l G z a dv v hv kv p1 _ v' hv' kv' (by omega) (by omega) e7, fun H1 hpost => ?_⟩
  obtain ⟨n_bk, n_hs, n_hu, hfr⟩ := hpost
  exact ⟨⟨dv, v', hv', kv', tv, rv, vt, fv, wv, h_hl.kept hfr (fun q h1 h2 h3 => by (try dsimp only at h3); omega), n_bk, n_hs, n_hu, h_tx.kept hfr (fun q h1 h2 h3 => by (try dsimp only at h3); omega), h_tr.kept hfr (fun q h1 h2 h3 => by (try dsimp only at h3); omega), h_tb.kept hfr (fun q h1 h2 h3 => by (try dsimp only at h3); omega), h_tw.kept hfr (fun q h1 h2 h3 => by (try dsimp only at h3); omega), h_ws.kept hfr (fun q h1 h2 h3 => by (try dsimp only at h3); omega), r1, h1, ht.trans (m0 6 (by decide)).symm, CR.cong hc rfl (m0 4 (by decide))⟩, hfr.mono (fun q h => by (try dsimp only at h ⊢); omega)⟩
