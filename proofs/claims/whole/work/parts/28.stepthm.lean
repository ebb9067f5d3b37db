/-! EVERY STEP OF THE MODEL THAT IS NO CALL AND NO END is a step of the machine -/
theorem mr_ln {i : Instr} {n : Nat} (h : n = mq_ln i ∨ ∃ a b c d, i = .tableswitch a b c d) (hi : ∀ a b c d, i ≠ .tableswitch a b c d) : n = mq_ln i := h.resolve_right (fun ⟨a, b, c, d, e⟩ => hi a b c d e)
section MS
variable {p : Program} {l : Launch} {e : Env} {R : Room} {s : State} {m : MethodId} {args : Array Value} {below : List Frame} {meth : Method} {c : Code} {H : Heap} {locs : List Loc} {Q : State → Prop} {pc : Nat} {lr : Array Slot}
variable {D : va_G} {cA : Nat → ClassId} {B : Nat} {xa : Nat → Nat} {X : Nat → mq_E} {h h' : mq_H} {mi n0 w0 : Nat} {ls ls' : mq_L} {st st' : List Value}
set_option maxHeartbeats 4000000 in
theorem mr_step (hx : p.tables.exec = Jvm.exec) (hb : c.code = mk_b mi) (hown : s.vm.findClass (mp_cn.getD (mp_of mi).1 "") = some m.cls) (hts : ∀ w ∈ mg_tbl, w.before args s = true) (hK : va_K D mk_cl (mr_ty cA) s) (hF : mr_Xf B xa X s) (hO : va_AO "ShareTable$Table" s)
    (hSt : ∀ idx a, mp_ks mi idx = some a → ∃ tx, vk_R (mp_cn.getD (mp_of mi).1 "") idx tx (mr_a B xa a) s)
    (hSg : ∀ (idx : Nat) (v : Int32) (pc : Nat) (H : Heap) (locs : List Loc) (cells slots : Nat) (lr : Array Slot) (rest : List Value), mp_sg mi idx = some v → va_S (fun q => B ≤ q) s.heap H locs → decode (mk_b mi) pc = .ok (.getstatic idx, 3) → W p l e R s m args below meth c H locs cells slots Q (F0 m (pc + 3) lr (.int v :: rest)) → W p l e R s m args below meth c H locs cells slots Q (F0 m pc lr rest))
    (hin : mp_inT.getD mi false = true → meth.name = "<init>")
    (hW : mr_W D cA B xa X s H locs h) (hn : h.1 < mr_X) (hL : mr_L B xa lr (mp_mx mi) ls) (hn0 : n0 ≤ h.1) (hw0 : w0 ≤ h.2.1)
    {i : Instr} {n : Nat} (hdg : decode (mk_b mi) pc = .ok (i, n)) (hln : n = mq_ln i ∨ ∃ a b c d, i = .tableswitch a b c d) {pc' : Nat} (h0 : mq_do mi pc i n ls st h = some (.inl (pc', ls', st', h')))
    (hrc : h'.1 - n0 ≤ R.cells) (hrs : h'.2.1 - w0 ≤ R.slots)
    (kk : ∀ (lr' : Array Slot) (H' : Heap) (locs' : List Loc), mr_L B xa lr' (mp_mx mi) ls' → mr_W D cA B xa X s H' locs' h' → W p l e R s m args below meth c H' locs' (h'.1 - n0) (h'.2.1 - w0) Q (F0 m pc' lr' (st'.map (mr_v B xa)))) :
    W p l e R s m args below meth c H locs (h.1 - n0) (h.2.1 - w0) Q (F0 m pc lr (st.map (mr_v B xa))) := by
  unfold mq_do at h0
  split at h0
  -- constants
  · unfold mq_go at h0; cases h0
    obtain rfl := mr_ln hln (fun _ _ _ _ h => by cases h)
    exact lv_iconst hx hb hdg rfl (kk lr H locs hL hW)
  · unfold mq_go at h0; cases h0
    obtain rfl := mr_ln hln (fun _ _ _ _ h => by cases h)
    exact lv_bipush hx hb hdg rfl (kk lr H locs hL hW)
  · unfold mq_go at h0; cases h0
    obtain rfl := mr_ln hln (fun _ _ _ _ h => by cases h)
    exact lv_sipush hx hb hdg rfl (kk lr H locs hL hW)
  · unfold mq_go at h0; cases h0
    obtain rfl := mr_ln hln (fun _ _ _ _ h => by cases h)
    exact lv_lconst hx hb hdg rfl (kk lr H locs hL hW)
  · unfold mq_go at h0; cases h0
    obtain rfl := mr_ln hln (fun _ _ _ _ h => by cases h)
    exact lv_null hx hb hdg (kk lr H locs hL hW)
  -- loads
  · obtain rfl := mr_ln hln (fun _ _ _ _ h => by cases h)
    split at h0
    next x hv => unfold mq_go at h0; cases h0; exact lv_iload hx hb hdg (hL.at hv) (kk lr H locs hL hW)
    next => cases h0
  · obtain rfl := mr_ln hln (fun _ _ _ _ h => by cases h)
    split at h0
    next x hv => unfold mq_go at h0; cases h0; exact lv_iload_n hx hb hdg rfl (hL.at hv) (kk lr H locs hL hW)
    next => cases h0
  · obtain rfl := mr_ln hln (fun _ _ _ _ h => by cases h)
    split at h0
    next x hv => unfold mq_go at h0; cases h0; exact lv_lload hx hb hdg (hL.at hv) (kk lr H locs hL hW)
    next => cases h0
  · obtain rfl := mr_ln hln (fun _ _ _ _ h => by cases h)
    split at h0
    next x hv => unfold mq_go at h0; cases h0; exact lv_lload_n hx hb hdg rfl (hL.at hv) (kk lr H locs hL hW)
    next => cases h0
  · obtain rfl := mr_ln hln (fun _ _ _ _ h => by cases h)
    split at h0
    next x hv => unfold mq_go at h0; cases h0; exact lv_aload hx hb hdg (hL.at hv) (kk lr H locs hL hW)
    next hv => unfold mq_go at h0; cases h0; exact lv_aloadN hx hb hdg (hL.at hv) (kk lr H locs hL hW)
    next => cases h0
  · obtain rfl := mr_ln hln (fun _ _ _ _ h => by cases h)
    split at h0
    next x hv => unfold mq_go at h0; cases h0; exact lv_aload_n hx hb hdg rfl (hL.at hv) (kk lr H locs hL hW)
    next hv => unfold mq_go at h0; cases h0; exact lv_aload_nN hx hb hdg rfl (hL.at hv) (kk lr H locs hL hW)
    next => cases h0
  -- stores
  · obtain rfl := mr_ln hln (fun _ _ _ _ h => by cases h)
    split at h0
    next x t =>
      split at h0
      next hlt => unfold mq_go at h0; cases h0; exact lv_istore hx hb hdg hL.has (by rw [← hL.1]; exact hlt) rfl (fun lr' hl => kk lr' H locs (hL.s1 hl) hW)
      next => cases h0
    next => cases h0
  · obtain rfl := mr_ln hln (fun _ _ _ _ h => by cases h)
    split at h0
    next x t =>
      split at h0
      next hlt => unfold mq_go at h0; cases h0; exact lv_istore_n hx hb hdg rfl hL.has (by rw [← hL.1]; exact hlt) rfl (fun lr' hl => kk lr' H locs (hL.s1 hl) hW)
      next => cases h0
    next => cases h0
  · obtain rfl := mr_ln hln (fun _ _ _ _ h => by cases h)
    split at h0
    next x t =>
      split at h0
      next hlt => unfold mq_go at h0; cases h0; exact lv_lstore hx hb hdg hL.has (by rw [← hL.1]; exact hlt) rfl (fun lr' hl => kk lr' H locs (hL.s2 hl) hW)
      next => cases h0
    next => cases h0
  · obtain rfl := mr_ln hln (fun _ _ _ _ h => by cases h)
    split at h0
    next x t =>
      split at h0
      next hlt => unfold mq_go at h0; cases h0; exact lv_lstore_n hx hb hdg rfl hL.has (by rw [← hL.1]; exact hlt) rfl (fun lr' hl => kk lr' H locs (hL.s2 hl) hW)
      next => cases h0
    next => cases h0
  · obtain rfl := mr_ln hln (fun _ _ _ _ h => by cases h)
    split at h0
    next x t =>
      split at h0
      next hlt => unfold mq_go at h0; cases h0; exact lv_astore hx hb hdg hL.has (by rw [← hL.1]; exact hlt) rfl (fun lr' hl => kk lr' H locs (hL.s1 (v := .ref x) hl) hW)
      next => cases h0
    next t =>
      split at h0
      next hlt => unfold mq_go at h0; cases h0; exact lv_astoreN hx hb hdg hL.has (by rw [← hL.1]; exact hlt) rfl (fun lr' hl => kk lr' H locs (hL.s1 (v := .null) hl) hW)
      next => cases h0
    next => cases h0
  · obtain rfl := mr_ln hln (fun _ _ _ _ h => by cases h)
    split at h0
    next x t =>
      split at h0
      next hlt => unfold mq_go at h0; cases h0; exact lv_astore_n hx hb hdg rfl hL.has (by rw [← hL.1]; exact hlt) rfl (fun lr' hl => kk lr' H locs (hL.s1 (v := .ref x) hl) hW)
      next => cases h0
    next t =>
      split at h0
      next hlt => unfold mq_go at h0; cases h0; exact lv_astore_nN hx hb hdg rfl hL.has (by rw [← hL.1]; exact hlt) rfl (fun lr' hl => kk lr' H locs (hL.s1 (v := .null) hl) hW)
      next => cases h0
    next => cases h0
  -- iinc
  · obtain rfl := mr_ln hln (fun _ _ _ _ h => by cases h)
    split at h0
    next x hv =>
      split at h0
      next hlt =>
        unfold mq_go at h0; cases h0
        obtain ⟨k, hk⟩ := List.getElem?_of_mem (mr_as_in (B := B) (xa := xa) (mr_ld hv))
        exact lv_iinc hx hb hdg hL.has hk rfl (by rw [← hL.1]; exact hlt) rfl (fun lr' hl => kk lr' H locs (hL.s1 hl) hW)
      next => cases h0
    next => cases h0
  -- dup, dup2, pop
  · obtain rfl := mr_ln hln (fun _ _ _ _ h => by cases h)
    split at h0
    next v t =>
      split at h0
      next hc => unfold mq_go at h0; cases h0; exact lv_dup hx hb hdg (by rw [mr_cat]; exact hc) (kk lr H locs hL hW)
      next => cases h0
    next => cases h0
  · obtain rfl := mr_ln hln (fun _ _ _ _ h => by cases h)
    split at h0
    next v w t =>
      split at h0
      next hc => unfold mq_go at h0; cases h0; exact lv_dup2_11 hx hb hdg (by rw [mr_cat]; exact hc.1) (by rw [mr_cat]; exact hc.2) (kk lr H locs hL hW)
      next => cases h0
    next => cases h0
  · obtain rfl := mr_ln hln (fun _ _ _ _ h => by cases h)
    split at h0
    next v t =>
      split at h0
      next hc => unfold mq_go at h0; cases h0; exact lv_pop hx hb hdg (by rw [mr_cat]; exact hc) (kk lr H locs hL hW)
      next => cases h0
    next => cases h0
  -- jumps
  · obtain rfl := mr_ln hln (fun _ _ _ _ h => by cases h)
    split at h0
    next x t =>
      unfold mq_jump at h0
      split at h0
      next hc => unfold mq_go at h0; cases h0; exact mr_if hx hb hc hdg (kk lr H locs hL hW)
      next => cases h0
    next => cases h0
  · obtain rfl := mr_ln hln (fun _ _ _ _ h => by cases h)
    split at h0
    next y x t =>
      unfold mq_jump at h0
      split at h0
      next hc => unfold mq_go at h0; cases h0; exact mr_icmp hx hb hc hdg (kk lr H locs hL hW)
      next => cases h0
    next => cases h0
  · obtain rfl := mr_ln hln (fun _ _ _ _ h => by cases h)
    split at h0
    next t =>
      unfold mq_jump at h0
      split at h0
      next hc => unfold mq_go at h0; cases h0; exact lv_ifnullN hx hb hdg (mr_to hc) (kk lr H locs hL hW)
      next => cases h0
    next a t =>
      unfold mq_jump at h0
      split at h0
      next hc => unfold mq_go at h0; cases h0; exact lv_ifnull hx hb hdg (kk lr H locs hL hW)
      next => cases h0
    next => cases h0
  · obtain rfl := mr_ln hln (fun _ _ _ _ h => by cases h)
    split at h0
    next t =>
      unfold mq_jump at h0
      split at h0
      next hc => unfold mq_go at h0; cases h0; exact lv_ifnonnullN hx hb hdg (kk lr H locs hL hW)
      next => cases h0
    next a t =>
      unfold mq_jump at h0
      split at h0
      next hc => unfold mq_go at h0; cases h0; exact lv_ifnonnull hx hb hdg (mr_to hc) (kk lr H locs hL hW)
      next => cases h0
    next => cases h0
  · obtain rfl := mr_ln hln (fun _ _ _ _ h => by cases h)
    unfold mq_jump at h0
    split at h0
    next hc => unfold mq_go at h0; cases h0; exact lv_goto hx hb hdg (mr_to hc) (kk lr H locs hL hW)
    next => cases h0
  · split at h0
    next x t =>
      split at h0
      next off hs =>
        unfold mq_jump at h0
        split at h0
        next hc => unfold mq_go at h0; cases h0; exact mr_sw hx hb hs hc hdg (kk lr H locs hL hW)
        next => cases h0
      next => cases h0
    next => cases h0
  -- constants of the pool
  · obtain rfl := mr_ln hln (fun _ _ _ _ h => by cases h)
    split at h0
    next v hv => unfold mq_go at h0; cases h0; exact lv_ldc hx hb hown (hts _ (mk_ki hv)) hdg (kk lr H locs hL hW)
    next =>
      split at h0
      next a ha =>
        unfold mq_go at h0; cases h0
        obtain ⟨tx, htx⟩ := hSt _ _ ha
        exact va_ldcS hx hb hown htx hdg (kk lr H locs hL hW)
      next => cases h0
  · obtain rfl := mr_ln hln (fun _ _ _ _ h => by cases h)
    split at h0
    next v hv => unfold mq_go at h0; cases h0; exact lv_ldcw hx hb hown (hts _ (mk_ki hv)) hdg (kk lr H locs hL hW)
    next => cases h0
  · obtain rfl := mr_ln hln (fun _ _ _ _ h => by cases h)
    split at h0
    next v hv => unfold mq_go at h0; cases h0; exact lv_ldc2 hx hb hown (hts _ (mk_kl hv)) hdg (kk lr H locs hL hW)
    next => cases h0
  · obtain rfl := mr_ln hln (fun _ _ _ _ h => by cases h)
    split at h0
    next v hv => unfold mq_go at h0; cases h0; exact hSg _ _ _ _ _ _ _ _ _ hv hW.2.2.2.2.2 hdg (kk lr H locs hL hW)
    next => cases h0
  -- fields
  · obtain rfl := mr_ln hln (fun _ _ _ _ h => by cases h)
    split at h0
    next a t =>
      split at h0
      next ci k hl =>
        split at h0
        next cj fs ho =>
          split at h0
          next v hv =>
            split at h0
            next hc => unfold mq_go at h0; cases h0; subst hc; exact mr_getf hx hb hown hts hK hF hW hn hl ho hv hdg (kk lr H locs hL hW)
            next => cases h0
          next => cases h0
        next => cases h0
      next => cases h0
    next => cases h0
  · obtain rfl := mr_ln hln (fun _ _ _ _ h => by cases h)
    split at h0
    next v a t =>
      split at h0
      next ci k hl =>
        split at h0
        next cj fs ho =>
          split at h0
          next hc =>
            unfold mq_go at h0; cases h0
            obtain ⟨rfl, hc2, hc3, hc4⟩ := hc
            by_cases h11 : cj = 11
            · exfalso
              rcases hW.obj hn ho with ⟨g1, g2, g3, g4, g5⟩ | ⟨j, g1, g2⟩
              · omega
              · have h9 := (hF j).2
                rw [g2] at h9
                subst h11
                unfold mp_pf at hc3
                rw [hl] at hc3
                simp only [Bool.or_eq_true, Bool.not_eq_true', Bool.and_eq_true, decide_eq_true_eq] at hc3
                rcases hc3 with q | q
                · have e9 : mp_fnT.getD 11 [] = [] := by decide +kernel
                  rw [e9] at q
                  simp at q
                · exact absurd q.2 (mk_ck11 q.1)
            · exact mr_putf hx hb hown hts hK hF hW hn hin (fun q ci hci hlt => by subst hci; exact mk_ckn hlt) hl ho hc2 hc3 hc4 hdg h11 (fun H1 locs1 hW1 => kk lr H1 locs1 hL hW1)
          next => cases h0
        next => cases h0
      next => cases h0
    next => cases h0
  -- arrays
  · obtain rfl := mr_ln hln (fun _ _ _ _ h => by cases h)
    split at h0
    next x t hr => unfold mq_go at h0; cases h0; exact mr_iald hx hb hK hF hW hn hr hdg (kk lr H locs hL hW)
    next => cases h0
  · obtain rfl := mr_ln hln (fun _ _ _ _ h => by cases h)
    split at h0
    next x t hr => unfold mq_go at h0; cases h0; exact mr_bald hx hb hK hF hW hn hr hdg (kk lr H locs hL hW)
    next => cases h0
  · obtain rfl := mr_ln hln (fun _ _ _ _ h => by cases h)
    split at h0
    next x t hr => unfold mq_go at h0; cases h0; exact mr_cald hx hb hK hF hW hn hr hdg (kk lr H locs hL hW)
    next => cases h0
  · obtain rfl := mr_ln hln (fun _ _ _ _ h => by cases h)
    split at h0
    next i a t =>
      split at h0
      next k m9 g hg =>
        split at h0
        next hc => unfold mq_go at h0; cases h0; obtain ⟨rfl, hc2⟩ := hc; exact mr_lald hx hb hK hF hW hn hg hc2 hdg (kk lr H locs hL hW)
        next => cases h0
      next => cases h0
    next => cases h0
  · obtain rfl := mr_ln hln (fun _ _ _ _ h => by cases h)
    split at h0
    next i a t =>
      split at h0
      next k m9 g hg =>
        split at h0
        next hc => unfold mq_go at h0; cases h0; obtain ⟨rfl, hc2⟩ := hc; exact mr_aald hx hb hK hF hW hn hg hc2 hdg (kk lr H locs hL hW)
        next => cases h0
      next => cases h0
    next => cases h0
  · obtain rfl := mr_ln hln (fun _ _ _ _ h => by cases h)
    split at h0
    next h1 t hr => unfold mq_go at h0; cases h0; exact mr_iast hx hb hK hF hW hn hr hdg (fun H1 locs1 hW1 => by have := mr_awi_n hr; rw [← this.1, ← this.2]; exact kk lr H1 locs1 hL hW1)
    next => cases h0
  · obtain rfl := mr_ln hln (fun _ _ _ _ h => by cases h)
    split at h0
    next h1 t hr => unfold mq_go at h0; cases h0; exact mr_zast hx hb hK hF hW hn hr hdg (fun H1 locs1 hW1 => by have := mr_awi_n hr; rw [← this.1, ← this.2]; exact kk lr H1 locs1 hL hW1)
    next => cases h0
  · obtain rfl := mr_ln hln (fun _ _ _ _ h => by cases h)
    split at h0
    next h1 t hr => unfold mq_go at h0; cases h0; exact mr_cast hx hb hK hF hW hn hr hdg (fun H1 locs1 hW1 => by have := mr_awi_n hr; rw [← this.1, ← this.2]; exact kk lr H1 locs1 hL hW1)
    next => cases h0
  · obtain rfl := mr_ln hln (fun _ _ _ _ h => by cases h)
    split at h0
    next x i a t =>
      split at h0
      next k m9 g hg =>
        split at h0
        next hc => unfold mq_go at h0; cases h0; obtain ⟨rfl, hc2⟩ := hc; exact mr_last hx hb hK hF hW hn hg hc2 hdg (fun H1 locs1 hW1 => kk lr H1 locs1 hL hW1)
        next => cases h0
      next => cases h0
    next => cases h0
  · obtain rfl := mr_ln hln (fun _ _ _ _ h => by cases h)
    split at h0
    next v i a t =>
      split at h0
      next k m9 g cj fs hg hv =>
        split at h0
        next hc => unfold mq_go at h0; cases h0; obtain ⟨rfl, rfl, hc2⟩ := hc; exact mr_ast hx hb hK hF hW hn hg hv hc2 hdg (fun H1 locs1 hW1 => kk lr H1 locs1 hL hW1)
        next => cases h0
      next => cases h0
    next i a t =>
      split at h0
      next k m9 g hg =>
        split at h0
        next hc => unfold mq_go at h0; cases h0; obtain ⟨rfl, hc2⟩ := hc; exact mr_astN hx hb hK hF hW hn hg hc2 hdg (fun H1 locs1 hW1 => kk lr H1 locs1 hL hW1)
        next => cases h0
      next => cases h0
    next => cases h0
  · obtain rfl := mr_ln hln (fun _ _ _ _ h => by cases h)
    split at h0
    next a t =>
      split at h0
      next k m9 y hg =>
        split at h0
        next hc => unfold mq_go at h0; cases h0; exact mr_alen hx hb hK hF hW hn hg hc hdg (kk lr H locs hL hW)
        next => cases h0
      next => cases h0
    next => cases h0
  -- new cells
  · obtain rfl := mr_ln hln (fun _ _ _ _ h => by cases h)
    split at h0
    next ci w hl =>
      split at h0
      next hc =>
        split at h0
        next => cases h0
        next => cases h0
      next hc =>
        unfold mq_go at h0; cases h0
        have e1 : h.1 + 1 - n0 = h.1 - n0 + 1 := by omega
        have e2 : h.2.1 + w - w0 = h.2.1 - w0 + w := by omega
        have r1 : h.1 + 1 - n0 ≤ R.cells := hrc
        have r2 : h.2.1 + w - w0 ≤ R.slots := hrs
        refine mr_new hx hb hown hts hK hW hn hl hc (by omega) (by omega) hdg (fun H1 hW1 => ?_)
        rw [← e1, ← e2]
        exact kk lr H1 locs hL hW1
    next => cases h0
  · obtain rfl := mr_ln hln (fun _ _ _ _ h => by cases h)
    split at h0
    next z t =>
      split at h0
      next k f hk =>
        split at h0
        next hc =>
          unfold mq_go at h0; cases h0
          have e1 : h.1 + 1 - n0 = h.1 - n0 + 1 := by omega
          have e2 : h.2.1 + z.toNatClampNeg - w0 = h.2.1 - w0 + z.toNatClampNeg := by omega
          have r1 : h.1 + 1 - n0 ≤ R.cells := hrc
          have r2 : h.2.1 + z.toNatClampNeg - w0 ≤ R.slots := hrs
          refine mr_newa hx hb hts hK hW hn hk hc.1 hc.2 (by omega) (by omega) hdg (fun H1 hW1 => ?_)
          rw [← e1, ← e2]
          exact kk lr H1 locs hL hW1
        next => cases h0
      next => cases h0
    next => cases h0
  · obtain rfl := mr_ln hln (fun _ _ _ _ h => by cases h)
    split at h0
    next z t =>
      split at h0
      next hc =>
        unfold mq_go at h0; cases h0
        have e1 : h.1 + 1 - n0 = h.1 - n0 + 1 := by omega
        have e2 : h.2.1 + z.toNatClampNeg - w0 = h.2.1 - w0 + z.toNatClampNeg := by omega
        have r1 : h.1 + 1 - n0 ≤ R.cells := hrc
        have r2 : h.2.1 + z.toNatClampNeg - w0 ≤ R.slots := hrs
        refine mr_newq hx hb hown hts hK hO hW hn hc.1 hc.2.1 hc.2.2 (by omega) (by omega) hdg (fun H1 hW1 => ?_)
        rw [← e1, ← e2]
        exact kk lr H1 locs hL hW1
      next => cases h0
    next => cases h0
  -- calls and ends
  · exact absurd h0 (mq_call_no _ _ _ _ _ _)
  · exact absurd h0 (mq_call_no _ _ _ _ _ _)
  · exact absurd h0 (mq_call_no _ _ _ _ _ _)
  · split at h0 <;> first | (cases h0; done) | (split at h0 <;> first | (cases h0; done) | (split at h0 <;> cases h0))
  · split at h0 <;> first | (cases h0; done) | (split at h0 <;> cases h0)
  · split at h0 <;> first | (cases h0; done) | (split at h0 <;> cases h0)
  · split at h0 <;> first | (cases h0; done) | (split at h0 <;> cases h0)
  -- one or two operands
  · split at h0
    next => cases h0
    next y t =>
      split at h0
      next v hv =>
        have h1 : n = 1 := by
          rcases hln with q | ⟨a, b, c, d, q⟩
          · rw [q]; exact mr_ln1u hv
          · rw [q] at hv; simp [mq_un] at hv
        subst h1
        unfold mq_go at h0; cases h0
        exact mr_un hx hb hv hdg (kk lr H locs hL hW)
      next =>
        split at h0
        next => cases h0
        next x t' =>
          split at h0
          next v hv =>
            have h1 : n = 1 := by
              rcases hln with q | ⟨a, b, c, d, q⟩
              · rw [q]; exact mr_ln1b hv
              · rw [q] at hv; simp [mq_bin] at hv
            subst h1
            unfold mq_go at h0; cases h0
            exact mr_bin hx hb hv hdg (kk lr H locs hL hW)
          next => cases h0
end MS
