/-! SHORTER WAYS: the row slot, the loop of holds, halves that don't touch a point -/
def q_N : Nat := 34968761573226931838676317322176997530009988209611871053007044187920868502187183274746900690045912032858223773502997438855837338471846348452623329005674902531887123603270223442870691761445121943015279970763792850399471473817376113034834174788573247043106546786595435025687030338024509884829465999950515698267790640503964436227751156501760591151898112840430533027499091312055211564935699871514587959715882483117799408742408731041411839614938123972649398088692663357765437614424206142630978986893803953479966664742256514790870148976372785963233868655665223033412059258774647005778435293530942565101624596396629771047404259191534851002552337232134083821295823441517063945413531801447545850660389555535874178169074068011989290092366062380049057698290265226564761029666724736248540839230997348420361097971307867465447492729281343770874726797072903860577058365600871270243738537215040983263871840460724257887671783425513940505703433841582885452254757337982582411639104422829089567349952123055660574685306664474076295517180154930533899771691241371064203332698434138147308593926060140978273284910184038230597942777733030969649153076550294762441131228532858273014320510080104337757566360730243724438973786941251582807661964895382367140884156952483942892873869970102760498664507099702062235114361414288969663654861142517364265943463401020602117104799532185739760347612757882091399872052734848255217818030356514422892049694787830502732603742951748446818807390523899006820181925556944630043521584063892572522217463455096536975652811698401704200376786435370796233857979510547484991896143289581836675151048394034552820221946524144005219265868197376881726204741947565752460699317170689801426558370685072519594046751890702897044804276702279751362972907862966668497659210578403249979020066210548723322173305422566550488472473671879716527664684571275986966106848157722403879178250968001435410376390474364653600467716946292770735278706133803140566153551886402531296516289403013606245582219189428837356851814791440370565266399592493472785690463548570700333834819569485008671195391764041095186995564831654117711627734408846863435250550213888914202971592302453027052970311467901970549256423018423913799320868457786137717151639147089899314307589795053270557392624052715601212862498259447035656158265221059344589400271467785816382594084432579343349893517360205997613949666111919657869983140776051231188895805836517839561646972768954912603216656139448625148459522324783159200016247495392452614315752737896667064570643239412070889950961927474244412023778157851425057115529578883702179198962887524346944088418147698809495997562366414889533357112669032722254080851519769323182066049521257656147054030902354107070255461773353926528382541825292613326080361566404335211098724658289084135179541428646816643453953266382470790567057124391447562029643753831286414943885407350665228886038339460504791378142174623386772552859776694978430607052935716751545783973176867205082311669354261390950728229813987200243311572141094816716868370825794326632802791228598186177267870900394289453690694358191252753209781696481913045984563255180106277207157087764171196732285714151708210582971974365309890511370754799788291830006288173831857405616310339516270992407843948986879457436375811475675738623061178590322690240598920637289252145211430514162158019070121567547956069808576211497450558298578487520935506882398621796110916866004970706181708380606524126595447097328452388112911837943231650283115606532677541324421381392626549399944446615454427940779675049471341380595191622229304699293345401369853280247597328706247141215473605962118396484994596593399700670965095752316657663442526409676824579139344625305890449573116648677595626146783495864491342160973269831918797146831370563070004803094128412583352910716795940881804212968753585916224618392287111858575589919323631680709124571911033520401522368515494870300164363741559524279856290653880659034675590459661227370970062504558308326877267243429100697770612832411496751234579622311743365347925128917310685468703082611790761076479979313998900765519306336929729271339136044868374869334260324492253445658644891761085339458011646382372702967553642439891860153102330317156669051911537570471952660060068937753343678023308808705521880190367976159268066058689957699340939100432023830531104626534065629866440071629478131933598886684078487849173816278234949480937237413003487444449347896091606077049799077591487929839620992586624090171995378381099964321015912813733957308399438341659303572143241516157585561645414018344496689510387105846561868869199169117089965450157871811338872950362112010548407975678840926915713646743114798480140044232469170381352056933154901169277045757832599048677278103190110063450933691283705220759778510131850906663467945301010050558798794928320787406962651769109480036761085916869670039092991124055658733856157175910871341449107298732511381730663077367232696257417808376428634914978312480742370129637342605422909934921522069872239998362390024153783954610785716105618627312907506937654316583026410790061063988862840939094594898341770194293565758779392979582609608306757939422264760641191646955058634420341692068817051270825160790552640855523999199332880331859698326416947737740164526594855155574251878625710259991654213643632048001841002856802098862890567895363042924779259114873877108197096616386553581065284116052844509261774205936596490699785367939649918208655119576925110637247920531241212103630767984138375657447917208707286477256651744867764840341153967438990558898364571655046433416383560232444022193085268493336576
theorem q_N_ck : (List.range 256).all (fun k => Nat.beq (n_at q_N k) 4294967296) = true := by decide +kernel
noncomputable def q_T (t : Lean.RArray Nat) : Nat → Lean.RArray Nat := @Nat.rec (fun _ => Lean.RArray Nat) t (fun _ t => .branch 0 t t)
theorem q_T_get (t : Lean.RArray Nat) : ∀ (d i : Nat), y_get (q_T t d) i = y_get t (i / 2 ^ d) := by
  intro d
  induction d with
  | zero =>
    intro i
    rw [Nat.pow_zero, Nat.div_one]
    rfl
  | succ d ih =>
    intro i
    have e : y_get (q_T t (d + 1)) i = y_get (q_T t d) (i / 2) := by
      show @Bool.rec (fun _ => Nat) (y_get (q_T t d) (Nat.div i 2)) (y_get (q_T t d) (Nat.div i 2)) (Nat.beq (Nat.mod i 2) 1) = _
      cases Nat.beq (Nat.mod i 2) 1 <;> rfl
    rw [e, ih, Nat.div_div_eq_div_mul, Nat.pow_succ, Nat.mul_comm 2]
theorem q_T_pf (t : Lean.RArray Nat) (e : Nat) (h : y_pf e t) : ∀ d, y_pf (e + d) (q_T t d) := by
  intro d
  induction d with
  | zero => exact h
  | succ d ih => exact ⟨ih, ih⟩
noncomputable def q_N6 : Lean.RArray Nat := q_T (.branch 0 (.leaf q_N) (.leaf 0)) 5
theorem q_lane0 (k : Nat) : n_at 0 k = 0 := by
  rw [n_at_eq]
  unfold cd
  rw [Nat.zero_div, Nat.zero_mod]
theorem q_N6_rg {k c : Nat} (hk : k < 16384) (h : y_rg q_N6 k = c + 1) : k < 8192 ∧ c = 4294967295 := by
  have h : n_at (y_get q_N6 (k / 256)) (k % 256) = c + 1 := h
  unfold q_N6 at h
  rw [q_T_get] at h
  have e : k / 256 / 2 ^ 5 = k / 8192 := by omega
  rw [e] at h
  by_cases q : k < 8192
  · refine ⟨q, ?_⟩
    rw [show k / 8192 = 0 by omega] at h
    have h : n_at q_N (k % 256) = c + 1 := h
    have := Nat.eq_of_beq_eq_true (List.all_eq_true.mp q_N_ck (k % 256) (List.mem_range.mpr (Nat.mod_lt _ (by decide))))
    omega
  · exfalso
    rw [show k / 8192 = 1 by omega] at h
    have h : n_at 0 (k % 256) = c + 1 := h
    rw [q_lane0] at h
    omega
theorem q_put2 {μ μ' : eM} {r : Nat} (h1 : μ'.2 = μ.2) (h2 : ∀ q, q ≠ r → μ'.1 q = μ.1 q) : (ev_ur μ.1 r (μ'.1 r), μ.2) = μ' := by
  obtain ⟨m1, m2⟩ := μ'
  have h1 : m2 = μ.2 := h1
  subst h1
  have e : ev_ur μ.1 r (m1 r) = m1 := by
    funext q
    unfold ev_ur
    by_cases hq : q = r
    · rw [if_pos hq, hq]
    · rw [if_neg hq]
      exact (h2 q hq).symm
  rw [e]
theorem q_int {μ : eM} {j n : Nat} (h : μ.2.1[j]? = some (100, n)) (hn : n < 1000000) : h_ar μ (j + 64) n := ⟨by omega, by rw [show j + 64 - 64 = j by omega]; exact h, hn⟩
noncomputable def q_sl (M : yM) (K : yM → Bool) : Bool := y_gf M 98 11 21 fun v => f_if false (Nat.beq v 109) (y_cl M 109 fun kd n _ => f_if false (Nat.beq kd 100) (f_if false (Nat.beq n 8192) (@Prod.rec nC7 (Nat × Nat) (fun _ => Bool) (fun T0 c0 => n_p7 45 (100, 8192, q_N6) T0 fun T => K (T, c0)) M)))
theorem q_N6_nz {k : Nat} (hk : k < 8192) : y_rg q_N6 k ≠ 0 := by
  show n_at (y_get q_N6 (k / 256)) (k % 256) ≠ 0
  unfold q_N6
  rw [q_T_get, show k / 256 / 2 ^ 5 = 0 by omega]
  have := Nat.eq_of_beq_eq_true (List.all_eq_true.mp q_N_ck (k % 256) (List.mem_range.mpr (Nat.mod_lt _ (by decide))))
  show n_at q_N (k % 256) ≠ 0
  omega
theorem x_sl_ok {z : eM} {M : yM} {μ : eM} {K : yM → Bool} (h : q_sl M K = true) (hR : xQ z M μ) : ev_kd μ 98 = some 11 ∧ μ.1 98 21 = 109 ∧ h_ar μ 109 8192 ∧ ∀ m : eM, m.2 = μ.2 → (∀ q, q ≠ 109 → m.1 q = μ.1 q) → (∀ j, j < 8192 → m.1 109 j = -1) → (∀ j, 8192 ≤ j → m.1 109 j = μ.1 109 j) → ∃ M1, K M1 = true ∧ xQ z M1 m := by
  obtain ⟨v, h1, k1, e1⟩ := x_gf_ok (ty := 3) h hR (by decide) rfl
  obtain ⟨g1, h2⟩ := f_if_ok h1
  have g1 := Nat.eq_of_beq_eq_true g1
  subst g1
  obtain ⟨j, kd, n, t, a1, a2, a3, a4, a5, h3⟩ := r_cl_ok h2 rfl hR.1
  obtain ⟨g2, h4⟩ := f_if_ok h3
  obtain ⟨g3, h5⟩ := f_if_ok h4
  have g2 := Nat.eq_of_beq_eq_true g2
  have g3 := Nat.eq_of_beq_eq_true g3
  subst g2
  subst g3
  have hj : j = 45 := by omega
  subst hj
  refine ⟨k1, e1, q_int a4 (by decide), fun m m1 m2 m3 m4 => ?_⟩
  obtain ⟨T0, c0⟩ := M
  have h6 : n_p7 45 (100, 8192, q_N6) T0 (fun T => K (T, c0)) = true := h5
  rw [n_p7_eq] at h6
  refine ⟨_, h6, ?_⟩
  have hrow : y_row 100 8192 q_N6 (m.1 109) := by
    refine ⟨6, q_T_pf (.branch 0 (.leaf q_N) (.leaf 0)) 1 ⟨True.intro, True.intro⟩ 5, by decide, by decide, fun k c hk hc => ?_⟩
    obtain ⟨q1, q2⟩ := q_N6_rg (by omega) hc
    rw [m3 k q1, q2]
    exact z_cm.symm
  have hc := x_cell hR a2 a3 a4 hrow (fun k hk => by
    by_cases hk8 : k < 8192
    · exact absurd (hk hk8) (q_N6_nz hk8)
    · rw [m4 k (by omega)]
      exact x_old hR a3 (fun q => absurd q hk8))
  have e := q_put2 m1 m2
  rw [show 45 + 64 = 109 from rfl, e] at hc
  exact hc
/-! holds -/
noncomputable def q_k1 (L : Nat) (K : Bool) : Bool := f_if false (Nat.ble 1 L) (f_if false (Nat.ble L 4294967296) K)
theorem q_k1_ok {L : Nat} {K : Bool} (h : q_k1 L K = true) : (1 ≤ L ∧ L ≤ 4294967296) ∧ K = true := by
  obtain ⟨h1, h2⟩ := f_if_ok h
  obtain ⟨h3, h4⟩ := f_if_ok h2
  exact ⟨⟨Nat.ble_eq.mp h1, Nat.ble_eq.mp h3⟩, h4⟩
noncomputable def q_key (t2 t0 : Lean.RArray Nat) (k : Nat) : Nat := Nat.add (Nat.mul (Nat.add (Nat.mul (y_rg t2 k) 1099511627776) (y_rg t0 (Nat.add (Nat.mul 3 k) 1))) 1099511627776) (y_rg t0 (Nat.add (Nat.mul 3 k) 2))
noncomputable def q_ky (t2 t0 : Lean.RArray Nat) (n : Nat) : List Nat → (List Nat → Bool) → Bool := @Nat.rec (fun _ => List Nat → (List Nat → Bool) → Bool) (fun acc K => K acc) (fun k ih acc K => q_k1 (y_rg t2 k) (q_k1 (y_rg t0 (Nat.mul 3 k)) (q_k1 (y_rg t0 (Nat.add (Nat.mul 3 k) 1)) (q_k1 (y_rg t0 (Nat.add (Nat.mul 3 k) 2)) (z_f (q_key t2 t0 k) fun x => ih (x :: acc) K))))) n
def q_kn (t2 t0 : Lean.RArray Nat) (k : Nat) : Prop := (1 ≤ y_rg t2 k ∧ y_rg t2 k ≤ 4294967296) ∧ (1 ≤ y_rg t0 (3 * k) ∧ y_rg t0 (3 * k) ≤ 4294967296) ∧ (1 ≤ y_rg t0 (3 * k + 1) ∧ y_rg t0 (3 * k + 1) ≤ 4294967296) ∧ (1 ≤ y_rg t0 (3 * k + 2) ∧ y_rg t0 (3 * k + 2) ≤ 4294967296)
theorem q_ky_ok {t2 t0 : Lean.RArray Nat} {K : List Nat → Bool} : ∀ (n : Nat) (acc : List Nat), q_ky t2 t0 n acc K = true → ∃ ks, K ks = true ∧ ks.length = n + acc.length ∧ (∀ k, k < n → ks[k]? = some (q_key t2 t0 k) ∧ q_kn t2 t0 k) ∧ ∀ k, ks[n + k]? = acc[k]? := by
  intro n
  induction n with
  | zero =>
    intro acc h
    exact ⟨acc, h, by omega, fun k hk => absurd hk (Nat.not_lt_zero k), fun k => by rw [Nat.zero_add]⟩
  | succ n ih =>
    intro acc h
    obtain ⟨a1, h1⟩ := q_k1_ok h
    obtain ⟨a2, h2⟩ := q_k1_ok h1
    obtain ⟨a3, h3⟩ := q_k1_ok h2
    obtain ⟨a4, h4⟩ := q_k1_ok h3
    obtain ⟨x, e, h5⟩ := z_f_ex h4
    subst e
    obtain ⟨ks, b1, b2, b3, b4⟩ := ih _ h5
    refine ⟨ks, b1, by rw [b2, List.length_cons]; omega, fun k hk => ?_, fun k => ?_⟩
    · by_cases hk2 : k < n
      · exact b3 k hk2
      · have hk3 : k = n := by omega
        subst hk3
        refine ⟨?_, a1, a2, a3, a4⟩
        have := b4 0
        rw [Nat.add_zero] at this
        rw [this]
        rfl
    · have := b4 (k + 1)
      rw [show n + 1 + k = n + (k + 1) by omega, this]
      rfl
noncomputable def q_fm (x k : Nat) (l : List Nat) : Nat → Nat := @List.rec Nat (fun _ => Nat → Nat) (fun _ => 4294967296) (fun y _ ih j => @Bool.rec (fun _ => Nat) (ih (Nat.succ j)) (@Bool.rec (fun _ => Nat) (Nat.succ j) (ih (Nat.succ j)) (Nat.beq j k)) (Nat.beq y x)) l
theorem q_fm_cons (x k y : Nat) (l : List Nat) (j : Nat) : q_fm x k (y :: l) j = @Bool.rec (fun _ => Nat) (q_fm x k l (j + 1)) (@Bool.rec (fun _ => Nat) (j + 1) (q_fm x k l (j + 1)) (Nat.beq j k)) (Nat.beq y x) := rfl
theorem h_it_pos (p κ : Nat → Int) (i : Nat) : ∀ (t j : Nat) (m : Int), 0 ≤ m → h_it p κ i t j m = m := by
  intro t
  induction t with
  | zero =>
    intro j m _
    rfl
  | succ t ih =>
    intro j m hm
    show h_it p κ i t (j + 1) (if j = i then m else h_nx p κ i j m) = m
    have e : (if j = i then m else h_nx p κ i j m) = m := by
      split
      · rfl
      · unfold h_nx
        rw [if_neg (by omega)]
    rw [e]
    exact ih _ _ hm
theorem q_fm_ok {p κ : Nat → Int} {key : Nat → Nat} {n : Nat} (hk : ∀ i j, i < n → j < n → (hC p κ i j = true ↔ key i = key j)) (hn : n ≤ 890) {i : Nat} (hi : i < n) : ∀ (l : List Nat) (j : Nat), (∀ q, q < l.length → l[q]? = some (key (j + q))) → j + l.length = n → h_it p κ i l.length j (-1) = zI (q_fm (key i) i l j - 1) ∧ 1 ≤ q_fm (key i) i l j ∧ q_fm (key i) i l j ≤ 4294967296 := by
  intro l
  induction l with
  | nil =>
    intro j _ _
    exact ⟨z_cm.symm, by show 1 ≤ 4294967296; decide, by show 4294967296 ≤ 4294967296; decide⟩
  | cons y l ih =>
    intro j hl hj
    rw [List.length_cons] at hj
    have hy : y = key j := by
      have := hl 0 (by rw [List.length_cons]; omega)
      rw [Nat.add_zero] at this
      exact Option.some.inj this
    have ih2 := ih (j + 1) (fun q hq => by
      have := hl (q + 1) (by rw [List.length_cons]; omega)
      rw [show j + 1 + q = j + (q + 1) by omega]
      exact this) (by omega)
    rw [q_fm_cons]
    show h_it p κ i l.length (j + 1) (if j = i then -1 else h_nx p κ i j (-1)) = _ ∧ _
    cases hb : Nat.beq y (key i) with
    | false =>
      have hb := z_bne hb
      have hne : (if j = i then (-1 : Int) else h_nx p κ i j (-1)) = -1 := by
        split
        · rfl
        · unfold h_nx
          rw [if_neg]
          rintro ⟨-, q⟩
          exact hb (by rw [hy]; exact ((hk i j hi (by omega)).mp q).symm)
      rw [hne]
      exact ih2
    | true =>
      have hb := Nat.eq_of_beq_eq_true hb
      cases hji : Nat.beq j i with
      | true =>
        rw [if_pos (Nat.eq_of_beq_eq_true hji)]
        exact ih2
      | false =>
        have hji := z_bne hji
        have e : h_nx p κ i j (-1) = (j : Int) := by
          unfold h_nx
          rw [if_pos ⟨by decide, (hk i j hi (by omega)).mpr (by rw [← hb, hy])⟩]
        rw [if_neg hji, e, h_it_pos _ _ _ _ _ _ (by omega)]
        refine ⟨?_, by show 1 ≤ j + 1; omega, by show j + 1 ≤ 4294967296; omega⟩
        show (j : Int) = zI (j + 1 - 1)
        rw [Nat.add_sub_cancel, zI_lit (by omega)]
noncomputable def q_fl (ks0 : List Nat) (l : List Nat) : Nat → Lean.RArray Nat → (Lean.RArray Nat → Bool) → Bool := @List.rec Nat (fun _ => Nat → Lean.RArray Nat → (Lean.RArray Nat → Bool) → Bool) (fun _ t K => K t) (fun x _ ih k t K => z_f (q_fm x k ks0 0) fun c => y_rs t k c fun t' => ih (Nat.succ k) t' K) l
theorem q_fl_ok {ks0 : List Nat} {K : Lean.RArray Nat → Bool} {n : Nat} (hn : n ≤ 890) (hc : ∀ i x, ks0[i]? = some x → q_fm x i ks0 0 < nW) : ∀ (l : List Nat) (k : Nat) (t : Lean.RArray Nat), (∀ q, q < l.length → l[q]? = ks0[k + q]?) → k + l.length = n → y_pf 2 t → q_fl ks0 l k t K = true → ∃ t', K t' = true ∧ y_pf 2 t' ∧ ∀ i, i < 1024 → (k ≤ i → i < n → ∃ x, ks0[i]? = some x ∧ y_rg t' i = q_fm x i ks0 0) ∧ ((i < k ∨ n ≤ i) → y_rg t' i = y_rg t i) := by
  intro l
  induction l with
  | nil =>
    intro k t _ hk hp h
    rw [List.length_nil] at hk
    exact ⟨t, h, hp, fun i _ => ⟨fun h1 h2 => by omega, fun _ => rfl⟩⟩
  | cons x l ih =>
    intro k t hl hk hp h
    rw [List.length_cons] at hk
    have hx : ks0[k]? = some x := by
      have := hl 0 (by rw [List.length_cons]; omega)
      rw [Nat.add_zero] at this
      rw [← this]
      rfl
    obtain ⟨c, e, h1⟩ := z_f_ex (show z_f (q_fm x k ks0 0) (fun c => y_rs t k c fun t' => q_fl ks0 l (k + 1) t' K) = true from h)
    have h2 := y_rs_ok h1
    obtain ⟨t', a1, a2, a3⟩ := ih (k + 1) (y_rp t k c) (fun q hq => by
      have := hl (q + 1) (by rw [List.length_cons]; omega)
      rw [show k + 1 + q = k + (q + 1) by omega, ← this]
      rfl) (by omega) (y_pf_put _ _ _ _ hp) h2
    refine ⟨t', a1, a2, fun i hi => ⟨fun h3 h4 => ?_, fun h3 => ?_⟩⟩
    · by_cases hik : i = k
      · subst hik
        refine ⟨x, hx, ?_⟩
        rw [(a3 i hi).2 (Or.inl (by omega)), y_rg_rp hp (by rw [← e]; exact hc i x hx) (by omega) (by omega), if_pos rfl, e]
      · exact (a3 i hi).1 (by omega) h4
    · rw [(a3 i hi).2 (by omega), y_rg_rp hp (by rw [← e]; exact hc k x hx) (by omega) (by omega), if_neg (by omega)]
noncomputable def q_z2 : Lean.RArray Nat := q_T (.leaf 0) 2
theorem q_z2_rg (k : Nat) : y_rg q_z2 k = 0 := by
  unfold y_rg q_z2
  rw [q_T_get]
  exact q_lane0 _
theorem q_z2_pf : y_pf 2 q_z2 := q_T_pf (.leaf 0) 0 True.intro 2
noncomputable def q_m1 (t : Lean.RArray Nat) (n : Nat) : Bool := @Nat.rec (fun _ => Bool) true (fun k ih => @Bool.rec (fun _ => Bool) false ih (Nat.beq (y_rg t k) 4294967296)) n
theorem q_m1_ok {t : Lean.RArray Nat} : ∀ n, q_m1 t n = true → ∀ k, k < n → y_rg t k = 4294967296 := by
  intro n
  induction n with
  | zero =>
    intro _ k hk
    omega
  | succ n ih =>
    intro h k hk
    have h : @Bool.rec (fun _ => Bool) false (q_m1 t n) (Nat.beq (y_rg t n) 4294967296) = true := h
    cases hq : Nat.beq (y_rg t n) 4294967296 with
    | false =>
      rw [hq] at h
      cases h
    | true =>
      rw [hq] at h
      by_cases hkn : k = n
      · rw [hkn]
        exact Nat.eq_of_beq_eq_true hq
      · exact ih h k (by omega)
noncomputable def q_rw (M : yM) (f b m : Nat) (K : Lean.RArray Nat → Bool) : Bool := y_gf M 98 11 f fun v => f_if false (Nat.beq v b) (y_cl M b fun kd n t => f_if false (Nat.beq kd 100) (f_if false (Nat.beq n m) (K t)))
theorem r_rw_ok {M : yM} {μ : eM} {f b m : Nat} {K : Lean.RArray Nat → Bool} (h : q_rw M f b m K = true) (hR : xR M μ) (hf : f < 256) (ht : y_ty 11 f = 3) (hm : m < 1000000) : ∃ t, K t = true ∧ ev_kd μ 98 = some 11 ∧ μ.1 98 f = (b : Int) ∧ h_ar μ b m ∧ b - 64 < M.2.1 ∧ y_row 100 m t (μ.1 b) := by
  obtain ⟨v, h1, k1, e1⟩ := r_gf_ok h hR hf ht
  obtain ⟨g1, h2⟩ := f_if_ok h1
  have g1 := Nat.eq_of_beq_eq_true g1
  subst g1
  obtain ⟨j, kd, n, t, a1, a2, a3, a4, a5, h3⟩ := r_cl_ok h2 rfl hR
  obtain ⟨g2, h4⟩ := f_if_ok h3
  obtain ⟨g3, h5⟩ := f_if_ok h4
  have g2 := Nat.eq_of_beq_eq_true g2
  have g3 := Nat.eq_of_beq_eq_true g3
  subst g2
  subst g3
  subst a1
  exact ⟨t, h5, k1, e1, q_int a4 hm, by omega, a5⟩
noncomputable def q_ho (M : yM) (K : yM → Bool) : Bool := y_gf M 98 11 8 fun n => f_if false (Nat.ble n 890) (q_rw M 12 102 890 fun t2 => q_rw M 22 110 2670 fun t0 => q_rw M 25 113 890 fun t3 => q_rw M 26 114 890 fun _ => q_rw M 27 115 890 fun _ => f_if false (q_m1 t3 n) (q_ky t2 t0 n [] fun ks => q_fl ks ks 0 q_z2 fun t' => @Prod.rec nC7 (Nat × Nat) (fun _ => Bool) (fun T0 c0 => n_p7 49 (100, 890, t') T0 fun T1 => n_p7 50 (100, 890, q_z2) T1 fun T2 => n_p7 51 (100, 890, q_z2) T2 fun T3 => K (T3, c0)) M))
theorem q_row0 {t : Lean.RArray Nat} {f : Nat → Int} {m k : Nat} (h : y_row 100 m t f) (hk : k < m) (h1 : 1 ≤ y_rg t k) : f k = zI (y_rg t k - 1) := by
  obtain ⟨d, p1, p2, p3, p4⟩ := h
  exact p4 k (y_rg t k - 1) (by omega) (by omega)
theorem q_inj {a b c d e f : Nat} (hb : b ≤ 4294967296) (hc : c ≤ 4294967296) (he : e ≤ 4294967296) (hf : f ≤ 4294967296) (h : (a * 1099511627776 + b) * 1099511627776 + c = (d * 1099511627776 + e) * 1099511627776 + f) : a = d ∧ b = e ∧ c = f := by omega
theorem q_zI {a b : Nat} (ha : 1 ≤ a ∧ a ≤ 4294967296) (hb : 1 ≤ b ∧ b ≤ 4294967296) : zI (a - 1) = zI (b - 1) ↔ a = b := by
  constructor
  · intro h
    unfold zI sg32 at h
    split at h <;> split at h <;> omega
  · intro h
    rw [h]
theorem r_ho_ok {M : yM} {μ : eM} {K : yM → Bool} (h : q_ho M K = true) (hR : xR M μ) : ∃ (n : Nat) (p κ : Nat → Int), hM n p κ μ ∧ (∀ k, k < n → μ.1 113 k = -1) ∧ ∀ μ' : eM, hT n μ μ' → (∀ k, k < n → μ'.1 113 k = h_it p κ k n 0 (-1)) → ∃ M1, K M1 = true ∧ xR M1 μ' := by
  obtain ⟨n, h0, hkd, e8⟩ := r_gf_ok (ty := 0) h hR (by decide) rfl
  obtain ⟨g1, h1⟩ := f_if_ok h0
  have hn := Nat.ble_eq.mp g1
  obtain ⟨t2, h2, -, f12, r2, -, w2⟩ := r_rw_ok h1 hR (by decide) rfl (by decide)
  obtain ⟨t0, h3, -, f22, r0, -, w0⟩ := r_rw_ok h2 hR (by decide) rfl (by decide)
  obtain ⟨t3, h4, -, f25, r3, b3, w3⟩ := r_rw_ok h3 hR (by decide) rfl (by decide)
  obtain ⟨t4, h5, -, f26, r4, b4, w4⟩ := r_rw_ok h4 hR (by decide) rfl (by decide)
  obtain ⟨t5, h6, -, f27, r5, b5, w5⟩ := r_rw_ok h5 hR (by decide) rfl (by decide)
  obtain ⟨g2, h7⟩ := f_if_ok h6
  obtain ⟨ks, h8, s1, s2, s3⟩ := q_ky_ok n [] h7
  rw [List.length_nil, Nat.add_zero] at s1
  have e8 : μ.1 98 8 = (n : Int) := by
    have e8 : μ.1 98 8 = zI n := e8
    rw [e8, zI_lit (by omega)]
  have hp : ∀ k, k < 3 * n → 1 ≤ y_rg t0 k ∧ y_rg t0 k ≤ 4294967296 := by
    intro k hk
    have hq := (s2 (k / 3) (by omega)).2
    have h3 : k = 3 * (k / 3) ∨ k = 3 * (k / 3) + 1 ∨ k = 3 * (k / 3) + 2 := by omega
    rcases h3 with q | q | q
    · rw [q]; exact hq.2.1
    · rw [q]; exact hq.2.2.1
    · rw [q]; exact hq.2.2.2
  have key : ∀ i j, i < n → j < n → (hC (fun k => if k < 3 * n then zI (y_rg t0 k - 1) else 0) (fun k => if k < n then zI (y_rg t2 k - 1) else 0) i j = true ↔ q_key t2 t0 i = q_key t2 t0 j) := by
    intro i j hi hj
    have ai := (s2 i hi).2
    have aj := (s2 j hj).2
    unfold hC
    rw [Bool.and_eq_true, Bool.and_eq_true, decide_eq_true_eq, decide_eq_true_eq, decide_eq_true_eq]
    dsimp only
    rw [if_pos hi, if_pos hj, if_pos (by omega), if_pos (by omega), if_pos (by omega), if_pos (by omega), q_zI ai.1 aj.1, q_zI ai.2.2.1 aj.2.2.1, q_zI ai.2.2.2 aj.2.2.2]
    constructor
    · rintro ⟨q1, q2, q3⟩
      show (y_rg t2 i * 1099511627776 + y_rg t0 (3 * i + 1)) * 1099511627776 + y_rg t0 (3 * i + 2) = (y_rg t2 j * 1099511627776 + y_rg t0 (3 * j + 1)) * 1099511627776 + y_rg t0 (3 * j + 2)
      rw [q1, q2, q3]
    · intro q
      have q : (y_rg t2 i * 1099511627776 + y_rg t0 (3 * i + 1)) * 1099511627776 + y_rg t0 (3 * i + 2) = (y_rg t2 j * 1099511627776 + y_rg t0 (3 * j + 1)) * 1099511627776 + y_rg t0 (3 * j + 2) := q
      exact q_inj ai.2.2.1.2 ai.2.2.2.2 aj.2.2.1.2 aj.2.2.2.2 q
  have fm : ∀ i, i < n → h_it (fun k => if k < 3 * n then zI (y_rg t0 k - 1) else 0) (fun k => if k < n then zI (y_rg t2 k - 1) else 0) i n 0 (-1) = zI (q_fm (q_key t2 t0 i) i ks 0 - 1) ∧ 1 ≤ q_fm (q_key t2 t0 i) i ks 0 ∧ q_fm (q_key t2 t0 i) i ks 0 ≤ 4294967296 := by
    intro i hi
    have := q_fm_ok key hn hi ks 0 (fun q hq => by rw [Nat.zero_add]; exact (s2 q (by omega)).1) (by omega)
    rw [s1] at this
    exact this
  obtain ⟨t', h9, a1, a2⟩ := q_fl_ok hn (fun i x hx => by
    have hi : i < n := by rw [← s1]; exact (List.getElem?_eq_some_iff.mp hx).1
    have hx2 : x = q_key t2 t0 i := Option.some.inj (hx.symm.trans (s2 i hi).1)
    have hW : (4294967297 : Nat) < nW := by decide
    rw [hx2]
    have := (fm i hi).2.2
    omega) ks 0 q_z2 (fun q _ => by rw [Nat.zero_add]) (by omega) q_z2_pf h8
  refine ⟨n, fun k => if k < 3 * n then zI (y_rg t0 k - 1) else 0, fun k => if k < n then zI (y_rg t2 k - 1) else 0, ⟨hn, hkd, ⟨e8, f12, f22, f25, f26, f27⟩, ⟨r2, r0, r3, r4, r5⟩, fun k hk => ?_, fun k hk => ?_, fun k => ?_, fun k => ?_⟩, fun k hk => ?_, fun μ' m1 m2 => ?_⟩
  · show μ.1 110 k = if k < 3 * n then zI (y_rg t0 k - 1) else 0
    rw [if_pos hk]
    exact q_row0 w0 (by omega) (hp k hk).1
  · show μ.1 102 k = if k < n then zI (y_rg t2 k - 1) else 0
    rw [if_pos hk]
    exact q_row0 w2 (by omega) (s2 k hk).2.1.1
  · show ev_w (if k < 3 * n then zI (y_rg t0 k - 1) else 0) = if k < 3 * n then zI (y_rg t0 k - 1) else 0
    by_cases hk : k < 3 * n
    · rw [if_pos hk]
      exact zI_w _
    · rw [if_neg hk]
      exact ev_w_in (by decide) (by decide)
  · show ev_w (if k < n then zI (y_rg t2 k - 1) else 0) = if k < n then zI (y_rg t2 k - 1) else 0
    by_cases hk : k < n
    · rw [if_pos hk]
      exact zI_w _
    · rw [if_neg hk]
      exact ev_w_in (by decide) (by decide)
  · have e := q_m1_ok n g2 k hk
    rw [q_row0 w3 (by omega) (by omega), e]
    exact z_cm
  · obtain ⟨T0, c0⟩ := M
    have h10 : n_p7 49 (100, 890, t') T0 (fun T1 => n_p7 50 (100, 890, q_z2) T1 fun T2 => n_p7 51 (100, 890, q_z2) T2 fun T3 => K (T3, c0)) = true := h9
    rw [n_p7_eq, n_p7_eq, n_p7_eq] at h10
    refine ⟨_, h10, ?_⟩
    have u3 : y_row 100 890 t' (μ'.1 113) := by
      refine ⟨2, a1, by decide, by decide, fun k c hk hc => ?_⟩
      have hk : k < 1024 := hk
      by_cases hkn : k < n
      · obtain ⟨x, hx, hx2⟩ := (a2 k hk).1 (Nat.zero_le k) hkn
        have hx3 : x = q_key t2 t0 k := Option.some.inj (hx.symm.trans (s2 k hkn).1)
        rw [m2 k hkn, (fm k hkn).1, ← hx3, ← hx2, hc]
        rfl
      · rw [(a2 k hk).2 (Or.inr (by omega)), q_z2_rg] at hc
        omega
    have u0 : ∀ f : Nat → Int, y_row 100 890 q_z2 f := by
      intro f
      refine ⟨2, q_z2_pf, by decide, by decide, fun k c hk hc => ?_⟩
      rw [q_z2_rg] at hc
      omega
    have i3 : μ.2.1[49]? = some (100, 890) := r3.2.1
    have i4 : μ.2.1[50]? = some (100, 890) := r4.2.1
    have i5 : μ.2.1[51]? = some (100, 890) := r5.2.1
    have c1 := r_cell hR (j := 49) b3 i3 u3
    have c2 := r_cell c1 (j := 50) b4 i4 (u0 (μ'.1 114))
    have c3 := r_cell c2 (j := 51) b5 i5 (u0 (μ'.1 115))
    have e : ((ev_ur (ev_ur (ev_ur μ.1 113 (μ'.1 113)) 114 (μ'.1 114)) 115 (μ'.1 115), μ.2) : eM) = μ' := by
      obtain ⟨x1, x2⟩ := μ'
      obtain ⟨y1, y2, -⟩ := m1
      have y1 : x2 = μ.2 := y1
      subst y1
      have e : ev_ur (ev_ur (ev_ur μ.1 113 (x1 113)) 114 (x1 114)) 115 (x1 115) = x1 := by
        funext q
        unfold ev_ur
        by_cases q5 : q = 115
        · rw [if_pos q5, q5]
        · rw [if_neg q5]
          by_cases q4 : q = 114
          · rw [if_pos q4, q4]
          · rw [if_neg q4]
            by_cases q3 : q = 113
            · rw [if_pos q3, q3]
            · rw [if_neg q3]
              exact (y2 q q3 q4 q5).symm
      rw [e]
    have c4 : xR _ ((ev_ur (ev_ur (ev_ur μ.1 113 (μ'.1 113)) 114 (μ'.1 114)) 115 (μ'.1 115), μ.2) : eM) := c3
    rw [e] at c4
    exact c4
/-! halves that touch no such point -/
theorem c_qt {fg : eG} {rc : eQ} {d y pc np idx pl : Nat} {x : Int} {lv : List (Option eV)} {st : List eV} {F : List eFr} {μ : eM} {i w v : Int} {k : Nat} (hkd : ev_kd μ 98 = some 11) (hf : μ.1 98 22 = 110) (ha : h_ar μ 110 2670) (hr : (dt_co y).get pc = (pc, .invokevirtual idx, 3, (0, 238, 2, pl), x)) (hp : pc + 3 = np) (hs : Nat.ble (st.map ev_cat).sum 8 = true) (hi : 0 ≤ i ∧ i < 1000) (hw0 : 0 ≤ w ∧ w < 3) (hk : 3 * i + w = (k : Int)) (hkn : k < 2670) (hval : μ.1 110 k = v) (K : ex_q fg rc (d + 1, (y, np, lv, eI v :: st), F, μ)) : ex_q fg rc (d + 1, (y, pc, lv, eI w :: eI i :: eR 98 :: st), F, μ) := by
  have hv : ev_al fg μ 100 110 (3 * i + w) = some v := by
    rw [h_al ha hk (by omega), hval]
  have hpv : ev_pv 3 (μ.1 98 22) = eR 110 := by rw [hf]; rfl
  refine w_cv (as := [eI i, eI w]) (lv' := [some (eR 98), some (eI i), some (eI w)]) hr hp rfl (by simp only [List.length_cons]; omega) hs rfl rfl hkd rfl ?_
  refine w_s (np := 1) (lv' := [some (eR 98), some (eI (i)), some (eI (w))]) (st' := [eR 98]) rfl rfl rfl ?_
  refine w_gf (np := 4) (v := eR 110) rfl rfl hkd hpv ?_
  refine w_s (np := 5) (lv' := [some (eR 98), some (eI (i)), some (eI (w))]) (st' := [eI (3), eR 110]) rfl rfl rfl ?_
  refine w_s (np := 6) (lv' := [some (eR 98), some (eI (i)), some (eI (w))]) (st' := [eI (i), eI (3), eR 110]) rfl rfl rfl ?_
  have hw : ev_w ((3) * (i)) = ((3) * (i)) := ev_w_in (by omega) (by omega)
  refine w_s (np := 7) (lv' := [some (eR 98), some (eI (i)), some (eI (w))]) (st' := [eI ((3) * (i)), eR 110]) rfl (congrArg (fun q : Int => (some ([some (eR 98), some (eI (i)), some (eI (w))], eI q :: [eR 110]) : Option (List (Option eV) × List eV))) hw) rfl ?_
  clear hw
  refine w_s (np := 8) (lv' := [some (eR 98), some (eI (i)), some (eI (w))]) (st' := [eI (w), eI ((3) * (i)), eR 110]) rfl rfl rfl ?_
  have hw : ev_w (((3) * (i)) + (w)) = (((3) * (i)) + (w)) := ev_w_in (by omega) (by omega)
  refine w_s (np := 9) (lv' := [some (eR 98), some (eI (i)), some (eI (w))]) (st' := [eI (((3) * (i)) + (w)), eR 110]) rfl (congrArg (fun q : Int => (some ([some (eR 98), some (eI (i)), some (eI (w))], eI q :: [eR 110]) : Option (List (Option eV) × List eV))) hw) rfl ?_
  clear hw
  refine w_al (np := 10) (v := v) rfl rfl hv ?_
  refine w_rt rfl rfl rfl ?_
  exact K
theorem q_st {fg : eG} {rc : eQ} {d i n p : Nat} {x : Option eV} {F : List eFr} {μ : eM} (hkd : ev_kd μ 98 = some 11) (hn : μ.1 98 8 = (n : Int)) (hf : μ.1 98 22 = 110) (ha : h_ar μ 110 2670) (hn9 : n ≤ 890) (hin : i < n) (hv : ∀ w, w < 3 → ∃ v, μ.1 110 (3 * i + w) = zI v ∧ ¬ zI v = zI p) (K : ex_q fg rc (d + 3, (251, 23, [some (eR 98), some (eI (zI p)), some (eI (zI (i + 1))), x], []), F, μ)) : ex_q fg rc (d + 3, (251, 23, [some (eR 98), some (eI (zI p)), some (eI (zI i)), x], []), F, μ) := by
  have hi : zI i = (i : Int) := zI_lit (by omega)
  have hpv : ev_pv 0 (μ.1 98 8) = eI (zI n) := by rw [hn, ← zI_lit (show n ≤ 2147483647 by omega)]; rfl
  have hlt : z_lt i n = true := by
    refine z_bt fun q => z_lt_f q ?_
    rw [hi, zI_lit (by omega)]
    omega
  refine w_s (np := 24) (lv' := [some (eR 98), some (eI (zI p)), some (eI (zI i)), x]) (st' := [eI (zI i)]) rfl rfl rfl ?_
  refine w_s (np := 25) (lv' := [some (eR 98), some (eI (zI p)), some (eI (zI i)), x]) (st' := [eR 98, eI (zI i)]) rfl (s_an rfl (by decide)) rfl ?_
  refine w_gf (np := 28) (v := eI (zI n)) rfl rfl hkd hpv ?_
  refine v_ge_f (t1 := 190) rfl rfl hlt ?_
  refine w_s (np := 32) (lv' := [some (eR 98), some (eI (zI p)), some (eI (zI i)), x]) (st' := [eR 98]) rfl (s_an rfl (by decide)) rfl ?_
  refine w_s (np := 33) (lv' := [some (eR 98), some (eI (zI p)), some (eI (zI i)), x]) (st' := [eI (zI i), eR 98]) rfl rfl rfl ?_
  refine w_s (np := 34) (lv' := [some (eR 98), some (eI (zI p)), some (eI (zI i)), x]) (st' := [eI (zI 0), eI (zI i), eR 98]) rfl rfl rfl ?_
  obtain ⟨v0, e0, n0⟩ := hv 0 (by decide)
  refine c_qt (np := 37) (k := 3 * i + 0) (v := zI v0) hkd hf ha rfl rfl rfl (by omega) (by rw [zI_lit (show 0 ≤ 2147483647 by decide)]; omega) (by rw [zI_lit (show 0 ≤ 2147483647 by decide), hi]; omega) (by omega) e0 ?_
  refine w_s (np := 38) (lv' := [some (eR 98), some (eI (zI p)), some (eI (zI i)), x]) (st' := [eI (zI p), eI (zI v0)]) rfl rfl rfl ?_
  refine v_eq_f (t1 := 64) rfl rfl (z_bf (fun q => n0 (z_eq_t q))) ?_
  refine w_s (np := 42) (lv' := [some (eR 98), some (eI (zI p)), some (eI (zI i)), x]) (st' := [eR 98]) rfl (s_an rfl (by decide)) rfl ?_
  refine w_s (np := 43) (lv' := [some (eR 98), some (eI (zI p)), some (eI (zI i)), x]) (st' := [eI (zI i), eR 98]) rfl rfl rfl ?_
  refine w_s (np := 44) (lv' := [some (eR 98), some (eI (zI p)), some (eI (zI i)), x]) (st' := [eI (zI 1), eI (zI i), eR 98]) rfl rfl rfl ?_
  obtain ⟨v1, e1, n1⟩ := hv 1 (by decide)
  refine c_qt (np := 47) (k := 3 * i + 1) (v := zI v1) hkd hf ha rfl rfl rfl (by omega) (by rw [zI_lit (show 1 ≤ 2147483647 by decide)]; omega) (by rw [zI_lit (show 1 ≤ 2147483647 by decide), hi]; omega) (by omega) e1 ?_
  refine w_s (np := 48) (lv' := [some (eR 98), some (eI (zI p)), some (eI (zI i)), x]) (st' := [eI (zI p), eI (zI v1)]) rfl rfl rfl ?_
  refine v_eq_f (t1 := 64) rfl rfl (z_bf (fun q => n1 (z_eq_t q))) ?_
  refine w_s (np := 52) (lv' := [some (eR 98), some (eI (zI p)), some (eI (zI i)), x]) (st' := [eR 98]) rfl (s_an rfl (by decide)) rfl ?_
  refine w_s (np := 53) (lv' := [some (eR 98), some (eI (zI p)), some (eI (zI i)), x]) (st' := [eI (zI i), eR 98]) rfl rfl rfl ?_
  refine w_s (np := 54) (lv' := [some (eR 98), some (eI (zI p)), some (eI (zI i)), x]) (st' := [eI (zI 2), eI (zI i), eR 98]) rfl rfl rfl ?_
  obtain ⟨v2, e2, n2⟩ := hv 2 (by decide)
  refine c_qt (np := 57) (k := 3 * i + 2) (v := zI v2) hkd hf ha rfl rfl rfl (by omega) (by rw [zI_lit (show 2 ≤ 2147483647 by decide)]; omega) (by rw [zI_lit (show 2 ≤ 2147483647 by decide), hi]; omega) (by omega) e2 ?_
  refine w_s (np := 58) (lv' := [some (eR 98), some (eI (zI p)), some (eI (zI i)), x]) (st' := [eI (zI p), eI (zI v2)]) rfl rfl rfl ?_
  refine v_eq_f (t1 := 64) rfl rfl (z_bf (fun q => n2 (z_eq_t q))) ?_
  refine w_go (t1 := 184) rfl rfl ?_
  refine w_s (np := 187) (lv' := [some (eR 98), some (eI (zI p)), some (eI (zI (i + 1))), x]) (st' := []) rfl (s_iinc (b := 1) rfl rfl (show z_add i 1 = i + 1 by show (i + 1) % 4294967296 = i + 1; omega) rfl) rfl ?_
  refine w_go (t1 := 23) rfl rfl ?_
  exact K
noncomputable def q_s1 (L p : Nat) : Bool := @Bool.rec (fun _ => Bool) false (@Bool.rec (fun _ => Bool) false (@Bool.rec (fun _ => Bool) true false (Nat.beq L (Nat.succ p))) (Nat.ble L 4294967296)) (Nat.ble 1 L)
theorem q_s1_ok {L p : Nat} (h : q_s1 L p = true) : 1 ≤ L ∧ L ≤ 4294967296 ∧ L ≠ p + 1 := by
  unfold q_s1 at h
  cases h1 : Nat.ble 1 L with
  | false => rw [h1] at h; cases h
  | true =>
    rw [h1] at h
    cases h2 : Nat.ble L 4294967296 with
    | false => rw [h2] at h; cases h
    | true =>
      rw [h2] at h
      cases h3 : Nat.beq L (Nat.succ p) with
      | true => rw [h3] at h; cases h
      | false => exact ⟨Nat.ble_eq.mp h1, Nat.ble_eq.mp h2, z_bne h3⟩
noncomputable def q_s3 (t : Lean.RArray Nat) (p i : Nat) : Bool := @Bool.rec (fun _ => Bool) false (@Bool.rec (fun _ => Bool) false (q_s1 (y_rg t (Nat.add (Nat.mul 3 i) 2)) p) (q_s1 (y_rg t (Nat.add (Nat.mul 3 i) 1)) p)) (q_s1 (y_rg t (Nat.mul 3 i)) p)
theorem q_s3_ok {t : Lean.RArray Nat} {p i : Nat} (h : q_s3 t p i = true) : ∀ w, w < 3 → q_s1 (y_rg t (3 * i + w)) p = true := by
  unfold q_s3 at h
  cases h1 : q_s1 (y_rg t (Nat.mul 3 i)) p with
  | false => rw [h1] at h; cases h
  | true =>
    rw [h1] at h
    cases h2 : q_s1 (y_rg t (Nat.add (Nat.mul 3 i) 1)) p with
    | false => rw [h2] at h; cases h
    | true =>
      rw [h2] at h
      intro w hw
      match w, hw with
      | 0, _ => exact h1
      | 1, _ => exact h2
      | 2, _ => exact h
      | w + 3, hw => omega
noncomputable def q_sk (t : Lean.RArray Nat) (p : Nat) (n : Nat) : Nat → Nat := @Nat.rec (fun _ => Nat → Nat) (fun i => i) (fun _ ih i => @Bool.rec (fun _ => Nat) i (ih (Nat.succ i)) (q_s3 t p i)) n
theorem q_sk_ok (t : Lean.RArray Nat) (p : Nat) : ∀ n i, i ≤ q_sk t p n i ∧ q_sk t p n i ≤ i + n ∧ ∀ j, i ≤ j → j < q_sk t p n i → q_s3 t p j = true := by
  intro n
  induction n with
  | zero =>
    intro i
    exact ⟨Nat.le_refl _, Nat.le_refl _, fun j h1 h2 => absurd h2 (Nat.not_lt.mpr h1)⟩
  | succ n ih =>
    intro i
    show i ≤ @Bool.rec (fun _ => Nat) i (q_sk t p n (i + 1)) (q_s3 t p i) ∧ @Bool.rec (fun _ => Nat) i (q_sk t p n (i + 1)) (q_s3 t p i) ≤ i + (n + 1) ∧ ∀ j, i ≤ j → j < @Bool.rec (fun _ => Nat) i (q_sk t p n (i + 1)) (q_s3 t p i) → q_s3 t p j = true
    cases hq : q_s3 t p i with
    | false => exact ⟨Nat.le_refl _, by show i ≤ i + (n + 1); omega, fun j h1 h2 => absurd h2 (Nat.not_lt.mpr h1)⟩
    | true =>
      obtain ⟨a1, a2, a3⟩ := ih (i + 1)
      refine ⟨by show i ≤ q_sk t p n (i + 1); omega, by show q_sk t p n (i + 1) ≤ i + (n + 1); omega, fun j h1 h2 => ?_⟩
      by_cases hj : j = i
      · rw [hj]; exact hq
      · exact a3 j (by omega) h2
noncomputable def q_kk (M : yM) (p i : Nat) (K : Nat → Bool) : Bool := y_gf M 98 11 8 fun n => q_rw M 22 110 2670 fun t => f_if false (Nat.ble n 890) (f_if false (Nat.ble i n) (f_if false (Nat.ble p 4294967295) (z_f (q_sk t p (Nat.sub n i) i) K)))
theorem x_kk_ok {fg : eG} {z : eM} {rc : eQ} {d p i : Nat} {x : Option eV} {F : List eFr} {M : yM} {μ : eM} {K : Nat → Bool} (h : q_kk M p i K = true) (hR : xQ z M μ) (hK : ∀ i', K i' = true → ex_q fg rc (d + 3, (251, 23, [some (eR 98), some (eI (zI p)), some (eI (zI i')), x], []), F, μ)) : ex_q fg rc (d + 3, (251, 23, [some (eR 98), some (eI (zI p)), some (eI (zI i)), x], []), F, μ) := by
  obtain ⟨n, h1, hkd, e8⟩ := x_gf_ok (ty := 0) h hR (by decide) rfl
  obtain ⟨t, h2, -, f22, r0, -, w0⟩ := r_rw_ok h1 hR.1 (by decide) rfl (by decide)
  obtain ⟨g1, h3⟩ := f_if_ok h2
  obtain ⟨g2, h4⟩ := f_if_ok h3
  obtain ⟨g3, h5⟩ := f_if_ok h4
  have g1 := Nat.ble_eq.mp g1
  have g2 := Nat.ble_eq.mp g2
  have g3 := Nat.ble_eq.mp g3
  obtain ⟨i', e, h6⟩ := z_f_ex h5
  have e8 : μ.1 98 8 = (n : Int) := by
    have e8 : μ.1 98 8 = zI n := e8
    rw [e8, zI_lit (by omega)]
  obtain ⟨a1, a2, a3⟩ := q_sk_ok t p (n - i) i
  have e : q_sk t p (n - i) i = i' := e
  rw [e] at a1 a2 a3
  have key : ∀ m j, j + m = i' → i ≤ j → ex_q fg rc (d + 3, (251, 23, [some (eR 98), some (eI (zI p)), some (eI (zI j)), x], []), F, μ) := by
    intro m
    induction m with
    | zero =>
      intro j hj _
      rw [show j = i' by omega]
      exact hK i' h6
    | succ m ih =>
      intro j hj hij
      refine q_st hkd e8 f22 r0 g1 (by omega) (fun w hw => ?_) (ih (j + 1) (by omega) (by omega))
      have q := q_s1_ok (q_s3_ok (a3 j hij (by omega)) w hw)
      refine ⟨y_rg t (3 * j + w) - 1, q_row0 w0 (by omega) q.1, fun r => q.2.2 ?_⟩
      have := (q_zI ⟨q.1, q.2.1⟩ (b := p + 1) ⟨by omega, by omega⟩).mp r
      exact this
  exact key (i' - i) i (by omega) (Nat.le_refl i)
