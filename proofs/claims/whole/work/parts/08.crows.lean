section CROWS
variable {F : fxT} {cc : ByteArray} {nL : Nat} {own : String} {rm : Room} {D : va_G} {G : gh} {ce sl pc : Nat} {L : List (Nat × Value)} {st st0 : List Value}
variable {y : MethodName} {bytes : ByteArray} {maxL n fr lc mc ms idx : Nat} {ret : Option FieldType} {As : List Value} {M1 : Nat → Prop}
theorem c_S_P {post : Option Value → Prop} (S : FX F cc nL own rm D) (hC : CP y bytes maxL ret fr lc D As G post) (ok : MetOK y bytes maxL ret n) (hlv : lvl rm maxL fr lc) (hsl : ce ≤ rm.cells ∧ sl ≤ rm.slots) (hn : As.length = n) (hcat : (st.map fun v => v.category).sum ≤ 8) (hl : Cond.methodLink own idx y ∈ WS) (hst : Cond.static y ∈ WS) (hs0 : st0 = As.reverse ++ st) (d : decode cc pc = .ok (.invokestatic idx, 3)) : RnP F nL G ce sl pc st0 st post := by
  obtain ⟨p, l, e, R, s, m, args, below, meth, c, Q, M, D', b0, G0⟩ := F
  obtain ⟨S1, hK, rfl, rfl, hG0⟩ := S
  have ht := S1.2.2.2.2
  intro H lo ls hG hsz
  exact ⟨_, va_runS (As := As) (rest := st) S1 (hC l) ⟨callB_of n ht (good_cons ok.1) rfl rfl rfl (ht _ ok.2.1) (ht _ hl) ok.2.2 hlv, ht _ hst⟩ ⟨cp_blind, fun U hU hW => ⟨rfl, hK.warm hW, by rw [hU]; exact hG⟩⟩ rfl hn hsz hs0 (lv_room hcat) d hsl⟩
theorem c_V_P {post : Option Value → Prop} {b ci : Nat} {fs : List Value} {T : u_T} {N : Nat} (S : FX F cc nL own rm D) (hC : CP y bytes maxL ret fr lc D (.ref b :: As) G post) (ok : MetOK y bytes maxL ret n) (hlv : lvl rm maxL fr lc) (hsl : ce ≤ rm.cells ∧ sl ≤ rm.slots) (hn : As.length = n) (hcat : (st.map fun v => v.category).sum ≤ 8) (hl : Cond.methodLink own idx y ∈ WS) (hin : Cond.instanceMethod y ∈ WS) (hse : Cond.selects y.cls y y ∈ WS) (hb : G b = some (eO ci fs)) (hc : clX[ci]? = some (y.cls, T, N)) (hs0 : st0 = As.reverse ++ .ref b :: st) (d : decode cc pc = .ok (.invokevirtual idx, 3)) : RnP F nL G ce sl pc st0 st post := by
  obtain ⟨p, l, e, R, s, m, args, below, meth, c, Q, M, D', b0, G0⟩ := F
  obtain ⟨S1, hK, rfl, rfl, hG0⟩ := S
  have ht := S1.2.2.2.2
  intro H lo ls hG hsz
  exact ⟨_, va_runV (C := y.cls) (As := As) (rest := st) S1 (hC l) ⟨callB_of n ht (good_cons ok.1) rfl rfl rfl (ht _ ok.2.1) (ht _ hl) ok.2.2 hlv, ht _ hin, ht _ hse⟩ ⟨cp_blind, t_recv hK hG hc hb, fun U hU hW => ⟨rfl, hK.warm hW, by rw [hU]; exact hG⟩⟩ rfl hn hsz hs0 (lv_room hcat) d hsl⟩
theorem c_U_P {post : Option Value → Prop} {b ci : Nat} {fs : List Value} {C owner : String} {x : MethodName} {T : u_T} {N m0 : Nat} {b0 : ByteArray} {r0 : Option FieldType} (S : FX F cc nL own rm D) (hC : CP y bytes maxL ret fr lc D (.ref b :: As) G post) (ok : MetOK y bytes maxL ret n) (hlv : lvl rm maxL fr lc) (hsl : ce ≤ rm.cells ∧ sl ≤ rm.slots) (hn : As.length = n) (hcat : (st.map fun v => v.category).sum ≤ 8) (hl : Cond.methodLink own idx x ∈ WS) (hsm : Cond.sameMethod x.cls owner x.name x.desc ∈ WS) (hdi : Cond.instanceMethod ⟨owner, x.name, x.desc⟩ ∈ WS) (hdc : Cond.code ⟨owner, x.name, x.desc⟩ b0 m0 r0 ∈ WS) (ho : owner ≠ "java/lang/invoke/MethodHandle" ∧ owner ≠ "java/lang/invoke/VarHandle" ∧ (parseMethodDescriptor x.desc).map (fun d => d.parameters.length) = some n) (hin : Cond.instanceMethod y ∈ WS) (hse : Cond.selects C x y ∈ WS) (hb : G b = some (eO ci fs)) (hc : clX[ci]? = some (C, T, N)) (hs0 : st0 = As.reverse ++ .ref b :: st) (d : decode cc pc = .ok (.invokevirtual idx, 3)) : RnP F nL G ce sl pc st0 st post := by
  obtain ⟨p, l, e, R, s, m, args, below, meth, c, Q, M, D', b0, G0⟩ := F
  obtain ⟨S1, hK, rfl, rfl, hG0⟩ := S
  have ht := S1.2.2.2.2
  intro H lo ls hG hsz
  exact ⟨_, va_runU (C := C) (owner := owner) (x := x) (As := As) (rest := st) S1 (hC l) ⟨⟨rfl, rfl, hlv.1, hlv.2, pay_in ht (good_cons ok.1), List.mem_cons_self⟩, ht _ ok.1, ht _ ok.2.1, ⟨ho.1, ho.2.1⟩, fun sig h => (by have h2 := ho.2.2; rw [h] at h2; exact (Option.some.inj h2).symm), ht _ hl, ht _ hsm, va_Decl.of (ht _ hdi) (ht _ hdc), ht _ hse, ht _ hin⟩ ⟨cp_blind, t_recv hK hG hc hb, fun U hU hW => ⟨rfl, hK.warm hW, by rw [hU]; exact hG⟩⟩ rfl hn hsz hs0 (lv_room hcat) d hsl⟩
theorem c_I_P {post : Option Value → Prop} {b : Nat} (S : FX F cc nL own rm D) (hC : CP y bytes maxL none fr lc D (.ref b :: As) G post) (ok : MetOK y bytes maxL none n) (hlv : lvl rm maxL fr lc) (hsl : ce ≤ rm.cells ∧ sl ≤ rm.slots) (hn : As.length = n) (hcat : (st.map fun v => v.category).sum ≤ 8) (hl : Cond.methodLink own idx y ∈ WS) (hin : Cond.instanceMethod y ∈ WS) (hy : y.name = "<init>") (hs0 : st0 = As.reverse ++ .ref b :: st) (d : decode cc pc = .ok (.invokespecial idx, 3)) : RnP F nL G ce sl pc st0 st post := by
  obtain ⟨p, l, e, R, s, m, args, below, meth, c, Q, M, D', b0, G0⟩ := F
  obtain ⟨S1, hK, rfl, rfl, hG0⟩ := S
  have ht := S1.2.2.2.2
  intro H lo ls hG hsz
  exact ⟨_, va_runI (As := As) (rest := st) (b := b) S1 (hC l) ⟨callB_of n ht (good_cons ok.1) rfl rfl rfl (ht _ ok.2.1) (ht _ hl) ok.2.2 hlv, hy, ht _ hin⟩ ⟨cp_blind, fun U hU hW => ⟨rfl, hK.warm hW, by rw [hU]; exact hG⟩⟩ rfl hn hsz hs0 (lv_room hcat) d hsl⟩
theorem c_SN_P {post : Option Value → Prop} {host : String} (S : FX F cc nL own rm D) (hC : CP y bytes maxL ret fr lc D As G post) (ok : MetOK y bytes maxL ret n) (hlv : lvl rm maxL fr lc) (hsl : ce ≤ rm.cells ∧ sl ≤ rm.slots) (hn : As.length = n) (hcat : (st.map fun v => v.category).sum ≤ 8) (hl : (own, idx, y, host) ∈ nwN) (hst : Cond.static y ∈ WS) (hs0 : st0 = As.reverse ++ st) (d : decode cc pc = .ok (.invokestatic idx, 3)) : RnP F nL G ce sl pc st0 st post := by
  obtain ⟨p, l, e, R, s, m, args, below, meth, c, Q, M, D', b0, G0⟩ := F
  obtain ⟨S1, hK, rfl, rfl, hG0⟩ := S
  have ht := S1.2.2.2.2
  intro H lo ls hG hsz
  exact ⟨_, va_runSN (host := host) (As := As) (rest := st) S1 (hC l) ⟨⟨⟨rfl, rfl, hlv.1, hlv.2, pay_in ht (good_cons ok.1), List.mem_cons_self⟩, ht _ ok.1, ht _ ok.2.1, ⟨ok.2.2.1, ok.2.2.2.1⟩, fun sig h => (by have h2 := ok.2.2.2.2; rw [h] at h2; exact (Option.some.inj h2).symm), va_Nw.use rfl (hK.2.2.1 _ hl)⟩, ht _ hst, trivial⟩ ⟨cp_blind, fun U hU hW => ⟨rfl, hK.warm hW, by rw [hU]; exact hG⟩⟩ rfl hn hsz hs0 (lv_room hcat) d hsl⟩
theorem c_IN_P {post : Option Value → Prop} {b : Nat} {host : String} (S : FX F cc nL own rm D) (hC : CP y bytes maxL none fr lc D (.ref b :: As) G post) (ok : MetOK y bytes maxL none n) (hlv : lvl rm maxL fr lc) (hsl : ce ≤ rm.cells ∧ sl ≤ rm.slots) (hn : As.length = n) (hcat : (st.map fun v => v.category).sum ≤ 8) (hl : (own, idx, y, host) ∈ nwN) (hin : Cond.instanceMethod y ∈ WS) (hy : y.name = "<init>") (hs0 : st0 = As.reverse ++ .ref b :: st) (d : decode cc pc = .ok (.invokespecial idx, 3)) : RnP F nL G ce sl pc st0 st post := by
  obtain ⟨p, l, e, R, s, m, args, below, meth, c, Q, M, D', b0, G0⟩ := F
  obtain ⟨S1, hK, rfl, rfl, hG0⟩ := S
  have ht := S1.2.2.2.2
  intro H lo ls hG hsz
  exact ⟨_, va_runIN (host := host) (As := As) (rest := st) (b := b) S1 (hC l) ⟨⟨⟨rfl, rfl, hlv.1, hlv.2, pay_in ht (good_cons ok.1), List.mem_cons_self⟩, ht _ ok.1, ht _ ok.2.1, ⟨ok.2.2.1, ok.2.2.2.1⟩, fun sig h => (by have h2 := ok.2.2.2.2; rw [h] at h2; exact (Option.some.inj h2).symm), va_Nw.use rfl (hK.2.2.1 _ hl)⟩, hy, ht _ hin⟩ ⟨cp_blind, fun U hU hW => ⟨rfl, hK.warm hW, by rw [hU]; exact hG⟩⟩ rfl hn hsz hs0 (lv_room hcat) d hsl⟩
theorem c_S_T {post : Option Value → gh → Prop} (S : FX F cc nL own rm D) (hC : CT y bytes maxL ret fr lc mc ms D As G M1 post) (ok : MetOK y bytes maxL ret n) (hlv : lvl rm maxL fr lc) (hsl : ce + mc ≤ rm.cells ∧ sl + ms ≤ rm.slots) (hn : As.length = n) (hcat : (st.map fun v => v.category).sum ≤ 8) (hl : Cond.methodLink own idx y ∈ WS) (hst : Cond.static y ∈ WS) (hs0 : st0 = As.reverse ++ st) (d : decode cc pc = .ok (.invokestatic idx, 3)) : RnT F nL G ce sl pc st0 st mc ms M1 post := by
  obtain ⟨p, l, e, R, s, m, args, below, meth, c, Q, M, D', b0, G0⟩ := F
  obtain ⟨S1, hK, rfl, rfl, hG0⟩ := S
  have ht := S1.2.2.2.2
  intro H lo ls hG hsz
  exact ⟨_, va_runS (As := As) (rest := st) S1 (hC l H.size) ⟨callB_of n ht (good_cons ok.1) rfl rfl rfl (ht _ ok.2.1) (ht _ hl) ok.2.2 hlv, ht _ hst⟩ ⟨ct_blind, fun U hU hW => ⟨rfl, hK.warm hW, by rw [hU]; exact hG, by rw [hU]⟩⟩ rfl hn hsz hs0 (lv_room hcat) d hsl⟩
theorem c_V_T {post : Option Value → gh → Prop} {b ci : Nat} {fs : List Value} {T : u_T} {N : Nat} (S : FX F cc nL own rm D) (hC : CT y bytes maxL ret fr lc mc ms D (.ref b :: As) G M1 post) (ok : MetOK y bytes maxL ret n) (hlv : lvl rm maxL fr lc) (hsl : ce + mc ≤ rm.cells ∧ sl + ms ≤ rm.slots) (hn : As.length = n) (hcat : (st.map fun v => v.category).sum ≤ 8) (hl : Cond.methodLink own idx y ∈ WS) (hin : Cond.instanceMethod y ∈ WS) (hse : Cond.selects y.cls y y ∈ WS) (hb : G b = some (eO ci fs)) (hc : clX[ci]? = some (y.cls, T, N)) (hs0 : st0 = As.reverse ++ .ref b :: st) (d : decode cc pc = .ok (.invokevirtual idx, 3)) : RnT F nL G ce sl pc st0 st mc ms M1 post := by
  obtain ⟨p, l, e, R, s, m, args, below, meth, c, Q, M, D', b0, G0⟩ := F
  obtain ⟨S1, hK, rfl, rfl, hG0⟩ := S
  have ht := S1.2.2.2.2
  intro H lo ls hG hsz
  exact ⟨_, va_runV (C := y.cls) (As := As) (rest := st) S1 (hC l H.size) ⟨callB_of n ht (good_cons ok.1) rfl rfl rfl (ht _ ok.2.1) (ht _ hl) ok.2.2 hlv, ht _ hin, ht _ hse⟩ ⟨ct_blind, t_recv hK hG hc hb, fun U hU hW => ⟨rfl, hK.warm hW, by rw [hU]; exact hG, by rw [hU]⟩⟩ rfl hn hsz hs0 (lv_room hcat) d hsl⟩
theorem c_U_T {post : Option Value → gh → Prop} {b ci : Nat} {fs : List Value} {C owner : String} {x : MethodName} {T : u_T} {N m0 : Nat} {b0 : ByteArray} {r0 : Option FieldType} (S : FX F cc nL own rm D) (hC : CT y bytes maxL ret fr lc mc ms D (.ref b :: As) G M1 post) (ok : MetOK y bytes maxL ret n) (hlv : lvl rm maxL fr lc) (hsl : ce + mc ≤ rm.cells ∧ sl + ms ≤ rm.slots) (hn : As.length = n) (hcat : (st.map fun v => v.category).sum ≤ 8) (hl : Cond.methodLink own idx x ∈ WS) (hsm : Cond.sameMethod x.cls owner x.name x.desc ∈ WS) (hdi : Cond.instanceMethod ⟨owner, x.name, x.desc⟩ ∈ WS) (hdc : Cond.code ⟨owner, x.name, x.desc⟩ b0 m0 r0 ∈ WS) (ho : owner ≠ "java/lang/invoke/MethodHandle" ∧ owner ≠ "java/lang/invoke/VarHandle" ∧ (parseMethodDescriptor x.desc).map (fun d => d.parameters.length) = some n) (hin : Cond.instanceMethod y ∈ WS) (hse : Cond.selects C x y ∈ WS) (hb : G b = some (eO ci fs)) (hc : clX[ci]? = some (C, T, N)) (hs0 : st0 = As.reverse ++ .ref b :: st) (d : decode cc pc = .ok (.invokevirtual idx, 3)) : RnT F nL G ce sl pc st0 st mc ms M1 post := by
  obtain ⟨p, l, e, R, s, m, args, below, meth, c, Q, M, D', b0, G0⟩ := F
  obtain ⟨S1, hK, rfl, rfl, hG0⟩ := S
  have ht := S1.2.2.2.2
  intro H lo ls hG hsz
  exact ⟨_, va_runU (C := C) (owner := owner) (x := x) (As := As) (rest := st) S1 (hC l H.size) ⟨⟨rfl, rfl, hlv.1, hlv.2, pay_in ht (good_cons ok.1), List.mem_cons_self⟩, ht _ ok.1, ht _ ok.2.1, ⟨ho.1, ho.2.1⟩, fun sig h => (by have h2 := ho.2.2; rw [h] at h2; exact (Option.some.inj h2).symm), ht _ hl, ht _ hsm, va_Decl.of (ht _ hdi) (ht _ hdc), ht _ hse, ht _ hin⟩ ⟨ct_blind, t_recv hK hG hc hb, fun U hU hW => ⟨rfl, hK.warm hW, by rw [hU]; exact hG, by rw [hU]⟩⟩ rfl hn hsz hs0 (lv_room hcat) d hsl⟩
theorem c_I_T {post : Option Value → gh → Prop} {b : Nat} (S : FX F cc nL own rm D) (hC : CT y bytes maxL none fr lc mc ms D (.ref b :: As) G M1 post) (ok : MetOK y bytes maxL none n) (hlv : lvl rm maxL fr lc) (hsl : ce + mc ≤ rm.cells ∧ sl + ms ≤ rm.slots) (hn : As.length = n) (hcat : (st.map fun v => v.category).sum ≤ 8) (hl : Cond.methodLink own idx y ∈ WS) (hin : Cond.instanceMethod y ∈ WS) (hy : y.name = "<init>") (hs0 : st0 = As.reverse ++ .ref b :: st) (d : decode cc pc = .ok (.invokespecial idx, 3)) : RnT F nL G ce sl pc st0 st mc ms M1 post := by
  obtain ⟨p, l, e, R, s, m, args, below, meth, c, Q, M, D', b0, G0⟩ := F
  obtain ⟨S1, hK, rfl, rfl, hG0⟩ := S
  have ht := S1.2.2.2.2
  intro H lo ls hG hsz
  exact ⟨_, va_runI (As := As) (rest := st) (b := b) S1 (hC l H.size) ⟨callB_of n ht (good_cons ok.1) rfl rfl rfl (ht _ ok.2.1) (ht _ hl) ok.2.2 hlv, hy, ht _ hin⟩ ⟨ct_blind, fun U hU hW => ⟨rfl, hK.warm hW, by rw [hU]; exact hG, by rw [hU]⟩⟩ rfl hn hsz hs0 (lv_room hcat) d hsl⟩
theorem c_SN_T {post : Option Value → gh → Prop} {host : String} (S : FX F cc nL own rm D) (hC : CT y bytes maxL ret fr lc mc ms D As G M1 post) (ok : MetOK y bytes maxL ret n) (hlv : lvl rm maxL fr lc) (hsl : ce + mc ≤ rm.cells ∧ sl + ms ≤ rm.slots) (hn : As.length = n) (hcat : (st.map fun v => v.category).sum ≤ 8) (hl : (own, idx, y, host) ∈ nwN) (hst : Cond.static y ∈ WS) (hs0 : st0 = As.reverse ++ st) (d : decode cc pc = .ok (.invokestatic idx, 3)) : RnT F nL G ce sl pc st0 st mc ms M1 post := by
  obtain ⟨p, l, e, R, s, m, args, below, meth, c, Q, M, D', b0, G0⟩ := F
  obtain ⟨S1, hK, rfl, rfl, hG0⟩ := S
  have ht := S1.2.2.2.2
  intro H lo ls hG hsz
  exact ⟨_, va_runSN (host := host) (As := As) (rest := st) S1 (hC l H.size) ⟨⟨⟨rfl, rfl, hlv.1, hlv.2, pay_in ht (good_cons ok.1), List.mem_cons_self⟩, ht _ ok.1, ht _ ok.2.1, ⟨ok.2.2.1, ok.2.2.2.1⟩, fun sig h => (by have h2 := ok.2.2.2.2; rw [h] at h2; exact (Option.some.inj h2).symm), va_Nw.use rfl (hK.2.2.1 _ hl)⟩, ht _ hst, trivial⟩ ⟨ct_blind, fun U hU hW => ⟨rfl, hK.warm hW, by rw [hU]; exact hG, by rw [hU]⟩⟩ rfl hn hsz hs0 (lv_room hcat) d hsl⟩
theorem c_IN_T {post : Option Value → gh → Prop} {b : Nat} {host : String} (S : FX F cc nL own rm D) (hC : CT y bytes maxL none fr lc mc ms D (.ref b :: As) G M1 post) (ok : MetOK y bytes maxL none n) (hlv : lvl rm maxL fr lc) (hsl : ce + mc ≤ rm.cells ∧ sl + ms ≤ rm.slots) (hn : As.length = n) (hcat : (st.map fun v => v.category).sum ≤ 8) (hl : (own, idx, y, host) ∈ nwN) (hin : Cond.instanceMethod y ∈ WS) (hy : y.name = "<init>") (hs0 : st0 = As.reverse ++ .ref b :: st) (d : decode cc pc = .ok (.invokespecial idx, 3)) : RnT F nL G ce sl pc st0 st mc ms M1 post := by
  obtain ⟨p, l, e, R, s, m, args, below, meth, c, Q, M, D', b0, G0⟩ := F
  obtain ⟨S1, hK, rfl, rfl, hG0⟩ := S
  have ht := S1.2.2.2.2
  intro H lo ls hG hsz
  exact ⟨_, va_runIN (host := host) (As := As) (rest := st) (b := b) S1 (hC l H.size) ⟨⟨⟨rfl, rfl, hlv.1, hlv.2, pay_in ht (good_cons ok.1), List.mem_cons_self⟩, ht _ ok.1, ht _ ok.2.1, ⟨ok.2.2.1, ok.2.2.2.1⟩, fun sig h => (by have h2 := ok.2.2.2.2; rw [h] at h2; exact (Option.some.inj h2).symm), va_Nw.use rfl (hK.2.2.1 _ hl)⟩, hy, ht _ hin⟩ ⟨ct_blind, fun U hU hW => ⟨rfl, hK.warm hW, by rw [hU]; exact hG, by rw [hU]⟩⟩ rfl hn hsz hs0 (lv_room hcat) d hsl⟩
end CROWS
