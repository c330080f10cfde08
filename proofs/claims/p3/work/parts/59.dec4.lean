/-! METHODS AS FUNCTIONS OF NUMBERS: static rows; writing, with what comes of it -/
def y_T : Lean.RArray yC := (.branch 0 (.branch 0 (.branch 0 (.branch 0 (.branch 0 (.branch 0 (.leaf (0, 0, .leaf 0)) (.leaf (0, 0, .leaf 0))) (.branch 0 (.leaf (100, 13, .leaf 528294531135665246352339784916542653450225762966879663095975003245905895456274013081522534846031491885728332565930469461872454322238627682055574716825683266744207184518109274697473673469314204678442694005975231291430567749312185864847715031931400836718516360271972270083)) (.leaf (0, 0, .leaf 0)))) (.branch 0 (.branch 0 (.leaf (0, 0, .leaf 0)) (.leaf (0, 0, .leaf 0))) (.branch 0 (.leaf (100, 8, .leaf 157122749179014809760655286805277725825275447872082837338658705056687318495001916415346275239888004287479770545153928719265086641993191120901101380960260)) (.leaf (0, 0, .leaf 0))))) (.branch 0 (.branch 0 (.branch 0 (.leaf (0, 0, .leaf 0)) (.leaf (0, 0, .leaf 0))) (.branch 0 (.leaf (100, 8, .leaf 209496998905353079680855231275742829001303409300577884409410849086907229524103268108683410204335966723779010915310579563231094705315747138499957753905155)) (.leaf (0, 0, .leaf 0)))) (.branch 0 (.branch 0 (.leaf (0, 0, .leaf 0)) (.leaf (0, 0, .leaf 0))) (.branch 0 (.leaf (0, 0, .leaf 0)) (.leaf (0, 0, .leaf 0)))))) (.branch 0 (.branch 0 (.branch 0 (.branch 0 (.leaf (100, 12, .leaf 3776805049873354959928349929864946135452752102974526546095200426917887439941704095201581999672664812662447973449121252425032765064009078866810641281105675198434688556252463145313166194679318130745841366079251458532819407472623317049069797378)) (.leaf (0, 0, .leaf 0))) (.branch 0 (.leaf (100, 8, .leaf 157122749179014809760666377484054209084713768574447157994972134473430612129313680460716591074662176026218240964663768756389936954267706078310481019273218)) (.leaf (0, 0, .leaf 0)))) (.branch 0 (.branch 0 (.leaf (0, 0, .leaf 0)) (.leaf (0, 0, .leaf 0))) (.branch 0 (.leaf (0, 0, .leaf 0)) (.leaf (0, 0, .leaf 0))))) (.branch 0 (.branch 0 (.branch 0 (.leaf (0, 0, .leaf 0)) (.leaf (0, 0, .leaf 0))) (.branch 0 (.leaf (100, 8, .leaf 157122749179014809760666377484054209084713768574447157994972134473430612129313680460716591074662176026218240964663768756389936954267706078310481019273218)) (.leaf (0, 0, .leaf 0)))) (.branch 0 (.branch 0 (.leaf (100, 13, .leaf 123003155723136208567899541545980538277248123538482338878474652281489374640804982486313410605005190941589717754788697639071989681766929800369969791358616195354000870791543441667989038547987249183304758692788090102812775424914083696924772357846116192757334671361)) (.leaf (0, 0, .leaf 0))) (.branch 0 (.leaf (0, 0, .leaf 0)) (.leaf (0, 0, .leaf 0))))))) (.branch 0 (.branch 0 (.branch 0 (.branch 0 (.branch 0 (.leaf (0, 0, .leaf 0)) (.leaf (0, 0, .leaf 0))) (.branch 0 (.leaf (100, 13, .leaf 246006311446272417135746989229204202692979992719197404818388899391967181103546439930233027536034597427832719233825746160628803995137066194155538239209388193748271794361785252110945027781958859501928753600774542987276100839844150860949157554345194390498435923969)) (.leaf (0, 0, .leaf 0)))) (.branch 0 (.branch 0 (.leaf (0, 0, .leaf 0)) (.leaf (0, 0, .leaf 0))) (.branch 0 (.leaf (0, 0, .leaf 0)) (.leaf (0, 0, .leaf 0))))) (.branch 0 (.branch 0 (.branch 0 (.leaf (0, 0, .leaf 0)) (.leaf (0, 0, .leaf 0))) (.branch 0 (.leaf (100, 40, .leaf 841758839495967475620826839998031215767004669010866824149165854454334726229539441917257697765437229994486270813806722348880092047887513762686080140140980553707664379811802617889320107027412105433400537648843007200771862064906332709061121390054815191919915273317687806705796239310794288730690422939619731785836410183990956389106498726588813221299360173219882247166983770376338711611190971698952972852215047593598844673454295435074150837189039648913919121523961472508122595415426011357885964915892809500134025466485328908139934566975587629880629118486950756487612703373351056660099332738092123208311955856453179059022546515670203545623251560258452218926358780074221354370510743956824125995254721177215682832922468169146389546078178403456804800195826251799438110386101860479128815886494909938058966333318482664274635552003728720032687267460885601692004909058)) (.leaf (0, 0, .leaf 0)))) (.branch 0 (.branch 0 (.leaf (101, 10, .leaf 657511971390126678744510251915841582003829623607840202204072368759541775120502181599175226483770194084362985251410375976942754960324713421199936339012154510002169619785234415194350427530484836018988439864082433)) (.leaf (0, 0, .leaf 0))) (.branch 0 (.leaf (0, 0, .leaf 0)) (.leaf (0, 0, .leaf 0)))))) (.branch 0 (.branch 0 (.branch 0 (.branch 0 (.leaf (0, 0, .leaf 0)) (.leaf (0, 0, .leaf 0))) (.branch 0 (.leaf (100, 8, .leaf 209496998905353079680855231275742829001303411649120467183244076975890503077030508842210576864509016590969526296722256960399074192131030759221866700734465)) (.leaf (0, 0, .leaf 0)))) (.branch 0 (.branch 0 (.leaf (0, 0, .leaf 0)) (.leaf (0, 0, .leaf 0))) (.branch 0 (.leaf (0, 0, .leaf 0)) (.leaf (0, 0, .leaf 0))))) (.branch 0 (.branch 0 (.branch 0 (.leaf (0, 0, .leaf 0)) (.leaf (0, 0, .leaf 0))) (.branch 0 (.leaf (100, 8, .leaf 157122749179014809760655286805277725825275454917710585660158388723637139153783638615927775220407153889051316689388960910769025102420152517135349640593410)) (.leaf (0, 0, .leaf 0)))) (.branch 0 (.branch 0 (.leaf (100, 13, .leaf 246006311446272417135720942297825765762221868298139899905118802678602649789184672348168823207909530690725656073648080201260065839115446402948640530504514411889616900392817865803761271491613037207182636620861475099895040383042997801350810075957332954412514017281)) (.leaf (0, 0, .leaf 0))) (.branch 0 (.leaf (0, 0, .leaf 0)) (.leaf (0, 0, .leaf 0))))))))
noncomputable def y_Tck (r : Nat) : Bool := decide ((y_get y_T r).1 = 0) || (decide (r ≠ 1) && (decide (dt_sk r = (y_get y_T r).1) && (decide ((dt_sv r).length = (y_get y_T r).2.1) && (decide ((y_get y_T r).2.1 ≤ 256) && ((match (y_get y_T r).2.2 with
  | .leaf _ => true
  | .branch _ _ _ => false) && (List.range 256).all fun k => decide (y_rg (y_get y_T r).2.2 k = 0) || decide (y_dec (y_ty (y_get y_T r).1 k) (y_rg (y_get y_T r).2.2 k - 1) = (dt_sv r).getD k 0))))))
theorem y_Tck_ok : (List.range 64).all y_Tck = true := by decide +kernel
theorem y_T_ok (L : Nat) (ρ : Nat → Int) : yG (dt_fg L ρ) y_T := by
  intro r h0 h1 h2
  have h := List.all_eq_true.mp y_Tck_ok r (List.mem_range.mpr h1)
  unfold y_Tck at h
  rw [Bool.or_eq_true, decide_eq_true_eq] at h
  rcases h with h | h
  · exact absurd h h2
  · simp only [Bool.and_eq_true, decide_eq_true_eq] at h
    obtain ⟨q1, q2, q3, q4, q5, q6⟩ := h
    have e : dt_fg L ρ r = (dt_sk r, (dt_sv r).length, fun j => (dt_sv r).getD j 0) := by
      unfold dt_fg
      rw [if_neg q1]
    rw [e]
    refine ⟨q2, q3, ⟨0, ?_, by omega, by omega, fun k c hk hc => ?_⟩⟩
    · generalize (y_get y_T r).2.2 = t at q5
      cases t with
      | leaf a => exact True.intro
      | branch p l r => cases q5
    · have q7 := List.all_eq_true.mp q6 k (List.mem_range.mpr (by omega))
      rw [Bool.or_eq_true, decide_eq_true_eq, decide_eq_true_eq] at q7
      rw [hc] at q7
      rcases q7 with q7 | q7
      · omega
      · rw [show c + 1 - 1 = c by omega] at q7
        exact q7.symm
theorem s_an {lv : List (Option eV)} {st : List eV} {r : Nat} {k : Fin 4} (hl : lv[k.val]? = some (some (eR r))) (hr : 0 < r) : ev_s (.aload_n k) lv st = some (lv, eR r :: st) := s_ldR hl hr
theorem s_ao {lv : List (Option eV)} {st : List eV} {r k : Nat} (hl : lv[k]? = some (some (eR r))) (hr : 0 < r) : ev_s (.aload k) lv st = some (lv, eR r :: st) := s_ldR hl hr
theorem s_sn {lv lv' : List (Option eV)} {st : List eV} {r : Nat} {k : Fin 4} (hk : k.val < lv.length) (hr : 0 < r) (hs : ev_st1 lv k.val (eR r) = lv') : ev_s (.astore_n k) lv (eR r :: st) = some (lv', st) := s_srR hk hr hs
theorem s_so {lv lv' : List (Option eV)} {st : List eV} {r k : Nat} (hk : k < lv.length) (hr : 0 < r) (hs : ev_st1 lv k (eR r) = lv') : ev_s (.astore k) lv (eR r :: st) = some (lv', st) := s_srR hk hr hs
section
variable {fg : eG} {μ μ0 : eM} {M : yM} {r a b i n v ty kk : Nat}
theorem y_wf_ex {K : yM → Bool} (h : y_wf M r a b v K = true) (hR : yR M μ) (hl : y_le μ0 μ) (ht : y_ty a b = ty) (h3 : ty ≠ 3) : ∃ M' μ', K M' = true ∧ ev_kd μ r = some a ∧ yR M' μ' ∧ y_le μ0 μ' ∧ (ev_up μ.1 r b (y_dec ty v), μ.2) = μ' := by
  obtain ⟨M', g1, g2, g3⟩ := y_wf_ok h hR ht h3
  exact ⟨M', _, g1, g2, g3, hl.tr (y_le_2 rfl), rfl⟩
theorem y_wr_ex {K : yM → Bool} (h : y_wr M r a b v K = true) (hR : yR M μ) (hl : y_le μ0 μ) (ht : y_ty a b = 3) : ∃ M' μ', K M' = true ∧ ev_kd μ r = some a ∧ yR M' μ' ∧ y_le μ0 μ' ∧ (ev_up μ.1 r b (v : Int), μ.2) = μ' := by
  obtain ⟨M', g1, g2, g3⟩ := y_wr_ok h hR ht
  exact ⟨M', _, g1, g2, g3, hl.tr (y_le_2 rfl), rfl⟩
theorem y_sa_ex {K : yM → Bool} (h : y_sa kk M r i v K = true) (hR : yR M μ) (hl : y_le μ0 μ) (ht : y_ty kk 0 = ty) (h1 : 100 ≤ kk) : ∃ M' μ', K M' = true ∧ ev_as μ kk r (zI i) (y_dec ty v) = some μ' ∧ yR M' μ' ∧ y_le μ0 μ' := by
  obtain ⟨M', g1, g2, g3⟩ := y_sa_ok h hR ht h1
  exact ⟨M', _, g1, g2, g3, hl.tr (y_le_2 rfl)⟩
theorem y_no_ex {K : Nat → yM → Bool} (h : y_no M a n K = true) (hR : yR M μ) (hl : y_le μ0 μ) : ∃ r M' μ', K r M' = true ∧ 64 ≤ r ∧ 0 < r ∧ r = μ.2.1.length + 64 ∧ yR M' μ' ∧ y_le μ0 μ' ∧ ev_nw μ a n = μ' := by
  obtain ⟨r, M', g1, g2, g3, g4, g5⟩ := y_no_ok h hR
  exact ⟨r, M', _, g1, g2, by omega, g3, g4, hl.tr g5, rfl⟩
theorem y_na_ex {K : Nat → yM → Bool} (h : y_na M a n K = true) (hR : yR M μ) (hl : y_le μ0 μ) : ∃ r M' μ', K r M' = true ∧ 0 < r ∧ r = μ.2.1.length + 64 ∧ (0 ≤ ev_w (zI n) ∧ ev_w (zI n) ≤ 1000000 ∧ (ev_w (zI n)).toNat = n) ∧ yR M' μ' ∧ y_le μ0 μ' ∧ ev_nw μ a n = μ' := by
  obtain ⟨r, M', g1, g2, g3, g6, g4, g5⟩ := y_na_ok h hR
  exact ⟨r, M', _, g1, by omega, g3, g6, g4, hl.tr g5, rfl⟩
theorem y_cp_ex {q : Nat} {K : yM → Bool} (h : y_cp M q r n K = true) (hR : yR M μ) (hl : y_le μ0 μ) : ∃ M' μ' k n0 n1, K M' = true ∧ ev_kn μ q = some (k, n0) ∧ ev_kn μ r = some (k, n1) ∧ (k = 100 ∨ k = 101) ∧ n ≤ n0 ∧ n ≤ n1 ∧ zI n = (n : Int) ∧ yR M' μ' ∧ y_le μ0 μ' ∧ (ev_ur μ.1 r (ev_cp (μ.1 q) (μ.1 r) n), μ.2) = μ' := by
  obtain ⟨M', k, n0, n1, g1, g2, g3, g4, g5, g6, g7, g8⟩ := y_cp_ok h hR
  exact ⟨M', _, k, n0, n1, g1, g2, g3, g4, g5, g6, g7, g8, hl.tr (y_le_2 rfl), rfl⟩
end
theorem v_pe0 {fg : eG} {rc : eQ} {d y pc : Nat} {x : Int} {lv : List (Option eV)} {st : List eV} {F : List eFr} {μ : eM} {μ' : eM} {np r a b pl idx v : Nat} (hr : (dt_co y).get pc = (pc, .putfield idx, 3, (a, b, 0, pl), x)) (hp : pc + 3 = np) (hk : ev_kd μ r = some a) (e : (ev_up μ.1 r b (y_dec 0 v), μ.2) = μ') (K : ex_q fg rc (d, (y, np, lv, st), F, μ')) : ex_q fg rc (d, (y, pc, lv, eI (zI v) :: eR r :: st), F, μ) := by
  subst e
  exact v_pf0 hr hp hk K
theorem v_pe1 {fg : eG} {rc : eQ} {d y pc : Nat} {x : Int} {lv : List (Option eV)} {st : List eV} {F : List eFr} {μ : eM} {μ' : eM} {np r a b pl idx v : Nat} (hr : (dt_co y).get pc = (pc, .putfield idx, 3, (a, b, 1, pl), x)) (hp : pc + 3 = np) (hk : ev_kd μ r = some a) (hv : Nat.ble v 1 = true) (e : (ev_up μ.1 r b (y_dec 1 v), μ.2) = μ') (K : ex_q fg rc (d, (y, np, lv, st), F, μ')) : ex_q fg rc (d, (y, pc, lv, eI (zI v) :: eR r :: st), F, μ) := by
  subst e
  exact v_pf1 hr hp hk hv K
theorem v_pe2 {fg : eG} {rc : eQ} {d y pc : Nat} {x : Int} {lv : List (Option eV)} {st : List eV} {F : List eFr} {μ : eM} {μ' : eM} {np r a b pl idx v : Nat} (hr : (dt_co y).get pc = (pc, .putfield idx, 3, (a, b, 2, pl), x)) (hp : pc + 3 = np) (hk : ev_kd μ r = some a) (e : (ev_up μ.1 r b (y_dec 2 v), μ.2) = μ') (K : ex_q fg rc (d, (y, np, lv, st), F, μ')) : ex_q fg rc (d, (y, pc, lv, eJ (zJ v) :: eR r :: st), F, μ) := by
  subst e
  exact v_pf2 hr hp hk K
theorem v_pe3 {fg : eG} {rc : eQ} {d y pc : Nat} {x : Int} {lv : List (Option eV)} {st : List eV} {F : List eFr} {μ : eM} {μ' : eM} {np r a b pl idx v : Nat} (hr : (dt_co y).get pc = (pc, .putfield idx, 3, (a, b, 3, pl), x)) (hp : pc + 3 = np) (hk : ev_kd μ r = some a) (e : (ev_up μ.1 r b (v : Int), μ.2) = μ') (K : ex_q fg rc (d, (y, np, lv, st), F, μ')) : ex_q fg rc (d, (y, pc, lv, eR v :: eR r :: st), F, μ) := by
  subst e
  exact v_pf3 hr hp hk K
theorem v_ne {fg : eG} {rc : eQ} {d y pc : Nat} {x : Int} {lv : List (Option eV)} {st : List eV} {F : List eFr} {μ : eM} {μ' : eM} {np a b t pl idx n r : Nat} (hr : (dt_co y).get pc = (pc, .new idx, 3, (a, b, t, pl), x)) (hp : pc + 3 = np) (hn : (dt_lay a).length = n) (h1 : r = μ.2.1.length + 64) (e : ev_nw μ a n = μ') (K : ex_q fg rc (d, (y, np, lv, eR r :: st), F, μ')) : ex_q fg rc (d, (y, pc, lv, st), F, μ) := by
  subst e
  exact v_no hr hp hn h1 K
theorem v_ae {fg : eG} {rc : eQ} {d y pc : Nat} {x : Int} {lv : List (Option eV)} {st : List eV} {F : List eFr} {μ : eM} {μ' : eM} {np a b t pl n r : Nat} {ty : Jvm.ClassFile.ArrayType} (hr : (dt_co y).get pc = (pc, .newarray ty, 2, (a, b, t, pl), x)) (hp : pc + 2 = np) (hn : 0 ≤ ev_w (zI n) ∧ ev_w (zI n) ≤ 1000000 ∧ (ev_w (zI n)).toNat = n) (h1 : r = μ.2.1.length + 64) (e : ev_nw μ a n = μ') (K : ex_q fg rc (d, (y, np, lv, eR r :: st), F, μ')) : ex_q fg rc (d, (y, pc, lv, eI (zI n) :: st), F, μ) := by
  subst e
  exact v_na hr hp hn h1 K
theorem v_ce {fg : eG} {rc : eQ} {d y pc : Nat} {x : Int} {lv : List (Option eV)} {st : List eV} {F : List eFr} {μ : eM} {μ' : eM} {np b t pl idx q r n dp sp : Nat} {k n0 n1 : Nat} (hr : (dt_co y).get pc = (pc, .invokestatic idx, 3, (23, b, t, pl), x)) (hp : pc + 3 = np) (h1 : ev_kn μ q = some (k, n0)) (h2 : ev_kn μ r = some (k, n1)) (h3 : k = 100 ∨ k = 101) (h4 : n ≤ n0) (h5 : n ≤ n1) (h6 : zI n = (n : Int)) (h7 : dp = 0) (h8 : sp = 0) (h9 : Nat.ble (st.map ev_cat).sum 8 = true) (e : (ev_ur μ.1 r (ev_cp (μ.1 q) (μ.1 r) n), μ.2) = μ') (K : ex_q fg rc (d + 1, (y, np, lv, st), F, μ')) : ex_q fg rc (d + 1, (y, pc, lv, eI (zI n) :: eI (zI dp) :: eR r :: eI (zI sp) :: eR q :: st), F, μ) := by
  subst e
  exact v_cp hr hp h1 h2 h3 h4 h5 h6 h7 h8 h9 K
