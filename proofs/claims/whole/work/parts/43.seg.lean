/-! the law: pieces of its walk -/
def lw_lv (b x1 x2 x3 j : Nat) : List (Nat × Value) := [(0, .ref b), (1, .ref x1), (2, .ref x2), (3, .ref x3), (4, .int (nI (3 * j)))]
section SG
variable {p : Program} {l : Launch} {e : Env} {s : State} {m : MethodId} {below : List Frame} {meth : Method} {c : Code} {b L : Nat} {xs : Nat → Int32} {D : va_G} {ca : Nat → ClassId} {hs : Nat → Nat} {ca2 : Nat → ClassId} {gs : Nat → Nat} {cL : ClassId} {oa : Nat} {H : Heap} {cells slots : Nat} {Q : State → Prop} {pc : Nat} {ls : Array Slot} {rest st0 : List Value}
variable {rt wd : Nat → Int32} {ob ln kd : Nat → Nat} {qt df : Nat → Bool} {cn : Nat} {w w2 : va_W} {th : Nat} {ov : Nat → Int64}
def lw_K (p : Program) (l : Launch) (e : Env) (s : State) (m : MethodId) (below : List Frame) (meth : Method) (c : Code) (b : Nat) (D : va_G) (ca : Nat → ClassId) (hs : Nat → Nat) (ca2 : Nat → ClassId) (gs : Nat → Nat) (cL : ClassId) (oa j : Nat) (Q : State → Prop) : Prop :=
  ∀ (H : Heap) (rt wd : Nat → Int32) (ob ln kd : Nat → Nat) (qt df : Nat → Bool) (cn : Nat) (w w2 : va_W) (th : Nat) (ov : Nat → Int64) (ls : Array Slot), lw_V s D ca hs ca2 gs cL oa H rt wd ob ln kd qt df cn w w2 th ov → iv_a ob ln kd wd (iv_c ob) → lv_has ls 7 (lw_lv b (hs 0) (gs 0) oa j) →
    W p l e room_1 s m #[Value.ref b] below meth c H [] (21 + j) (5486 + 6 * j) Q (F0 m 580 ls [])
theorem sc_ld {j t : Nat} {i1 : Nat} (C : lw_C p l s m meth c b L xs D ca hs ca2 gs cL oa) (hS : va_S (lw_A s) s.heap H []) (h0 : ls[0]? = some (.val (.ref b))) (h4 : ls[4]? = some (.val (.int (nI (3 * j))))) (hj : 3 * j + t < L) (ht : nI t = nI i1 ∧ i1 = t)
    (d0 : decode code pc = .ok (.aload_n 0, 1)) (d1 : decode code (pc + 1) = .ok (.iload 4, 2)) (d2 : ∀ (R : Room) (r : List Value), W p l e R s m #[Value.ref b] below meth c H [] cells slots Q (F0 m (pc + 1 + 2 + 1) ls (.int (nI t) :: r)) → W p l e R s m #[Value.ref b] below meth c H [] cells slots Q (F0 m (pc + 1 + 2) ls r)) (d3 : decode code (pc + 1 + 2 + 1) = .ok (.iadd, 1)) (d4 : decode code (pc + 1 + 2 + 1 + 1) = .ok (.iaload, 1))
    (kk : W p l e room_1 s m #[Value.ref b] below meth c H [] cells slots Q (F0 m (pc + 1 + 2 + 1 + 1 + 1) ls (.int (xs (3 * j + t)) :: rest))) : W p l e room_1 s m #[Value.ref b] below meth c H [] cells slots Q (F0 m pc ls rest) := by
  obtain ⟨⟨hx, hb, hrt, hml, hown, ht, hX, hbl, hlk, hL⟩, -⟩ := C
  refine lv_aload_n hx hb d0 rfl h0 ?_
  refine lv_iload hx hb d1 h4 ?_
  refine d2 _ _ ?_
  refine nx_iadd hx hb d3 ?_
  have e1 : (nI (3 * j + t)).toNatClampNeg = 3 * j + t := by
    show (Int32.ofNat (3 * j + t)).toNatClampNeg = 3 * j + t
    exact Int32.toNatClampNeg_ofNat_of_lt (by omega)
  refine va_sld (A := lw_A s) hx hb hX hbl (fun h => Nat.lt_irrefl _ (Nat.lt_of_lt_of_le hbl h)) hS (fun h => ?_) d4 ?_
  · rcases h with h | h
    · exact absurd h (nI_pos (by omega))
    · rw [e1] at h
      omega
  · rw [e1]
    exact kk
theorem sc_bool {x : Int32} (hx : p.tables.exec = Jvm.exec) (hb : c.code = code) {R : Room} {args : Array Value} {locs : List Loc} (d0 : decode code pc = .ok (.ifCond .eq 7, 3)) (d1 : decode code (pc + 3) = .ok (.iconst 1, 1)) (d2 : decode code (pc + 3 + 1) = .ok (.goto 4, 3)) (d3 : decode code (pc + 7) = .ok (.iconst 0, 1))
    (kk : W p l e R s m args below meth c H locs cells slots Q (F0 m (pc + 8) ls (.int (zb_e (decide (x ≠ 0))) :: rest))) : W p l e R s m args below meth c H locs cells slots Q (F0 m pc ls (.int x :: rest)) := by
  refine lv_if_eq (tgt := pc + 7) hx hb d0 (by simp) (fun h => ?_) (fun h => ?_)
  · refine lv_iconst (v := zb_e false) hx hb d3 (by decide +kernel) ?_
    rw [decide_eq_false (fun q => q h)] at kk
    exact kk
  · refine lv_iconst (v := zb_e true) hx hb d1 (by decide +kernel) ?_
    refine lv_goto (tgt := pc + 8) hx hb d2 (by simp; omega) ?_
    rw [decide_eq_true h] at kk
    exact kk
/-- the reference's thrown() -/
theorem sc_th {k : Nat} (C : lw_C p l s m meth c b L xs D ca hs ca2 gs cL oa) (V : lw_V s D ca hs ca2 gs cL oa H rt wd ob ln kd qt df cn w w2 k ov) (hsize : ls.size = 7) (hf : cells ≤ room_1.cells ∧ slots ≤ room_1.slots) (h2 : ls[2]? = some (.val (.ref (gs 0)))) (h5 : ls[5]? = some (.val (.int (nI k))))
    (d0 : decode code pc = .ok (.aload_n 2, 1)) (d1 : decode code (pc + 1) = .ok (.invokevirtual 44, 3)) (d2 : decode code (pc + 1 + 3) = .ok (.iload 5, 2)) (d3 : decode code (pc + 1 + 3 + 2) = .ok (.if_icmp .eq 5, 3))
    (kk : W p l e room_1 s m #[Value.ref b] below meth c H [] cells slots Q (F0 m (pc + 11) ls [])) : W p l e room_1 s m #[Value.ref b] below meth c H [] cells slots Q (F0 m pc ls []) := by
  obtain ⟨⟨hx, hb, hrt, hml, hown, ht, hX, hbl, hlk, hL⟩, ⟨htr, hT, hN⟩, ⟨hKG, hKM, hKo⟩, ⟨e1, e2, e3, e4, e5, e6, e7, e8⟩⟩ := C
  obtain ⟨⟨mk, fd, fc, rfl⟩, ⟨mk2, gv, rfl⟩, hP, hP2, hPo, hS⟩ := V
  refine lv_aload_n hx hb d0 rfl h2 ?_
  refine gx_cV (n := 0) (q0 := 0) (ci := 1) (q := (R_M, F_M, 11)) (C := R_M) (own := R_L) (As := []) (rest := []) (A := lw_A s) ⟨hx, hb, hml, hown, ht⟩ hg_all (c_M_thrown l D ca2 gs rt wd ob ln kd qt df mk2 k cn gv) wm_380 wm_381 wm_382 wm_36 wm_383 ⟨rfl, by decide, by decide, by decide +kernel⟩ rfl ⟨rfl, rfl⟩ ⟨by decide, by decide⟩ hf hKM hP2 (wM_D e8 (fun k hk => e2 k hk)) rfl rfl rfl hsize rfl (Nat.le_of_ble_eq_true rfl) d1 ?_
  refine lv_iload hx hb d2 h5 ?_
  exact lv_icmp_eq (tgt := pc + 11) hx hb d3 (by simp; omega) (fun _ => kk) (fun h => absurd rfl h)
/-- the answers are alike -/
theorem sc_cmp {k : Nat} {r : Int32} (C : lw_C p l s m meth c b L xs D ca hs ca2 gs cL oa) (V : lw_V s D ca hs ca2 gs cL oa H rt wd ob ln kd qt df cn w w2 k ov) (hov : nI k = 0 → ov 0 = r.toInt64) (h3 : ls[3]? = some (.val (.ref oa))) (h5 : ls[5]? = some (.val (.int (nI k)))) (h6 : ls[6]? = some (.val (.int r))) {off : Int}
    (d0 : decode code pc = .ok (.iload 5, 2)) (d1 : decode code (pc + 2) = .ok (.ifCond .ne 15, 3)) (d2 : decode code (pc + 2 + 3) = .ok (.aload_n 3, 1)) (d3 : decode code (pc + 2 + 3 + 1) = .ok (.iconst 0, 1)) (d4 : decode code (pc + 2 + 3 + 1 + 1) = .ok (.laload, 1)) (d5 : decode code (pc + 2 + 3 + 1 + 1 + 1) = .ok (.iload 6, 2)) (d6 : decode code (pc + 2 + 3 + 1 + 1 + 1 + 2) = .ok (.i2l, 1)) (d7 : decode code (pc + 2 + 3 + 1 + 1 + 1 + 2 + 1) = .ok (.lcmp, 1)) (d8 : decode code (pc + 2 + 3 + 1 + 1 + 1 + 2 + 1 + 1) = .ok (.ifCond .eq 5, 3)) (d9 : decode code (pc + 17) = .ok (.goto off, 3)) (ho : ((pc + 17 : Nat) : Int) + off = 580)
    (kk : W p l e room_1 s m #[Value.ref b] below meth c H [] cells slots Q (F0 m 580 ls [])) : W p l e room_1 s m #[Value.ref b] below meth c H [] cells slots Q (F0 m pc ls []) := by
  obtain ⟨⟨hx, hb, hrt, hml, hown, ht, hX, hbl, hlk, hL⟩, ⟨htr, hT, hN⟩, ⟨hKG, hKM, hKo⟩, -⟩ := C
  have hPo := V.2.2.2.2.1
  have kg : W p l e room_1 s m #[Value.ref b] below meth c H [] cells slots Q (F0 m (pc + 17) ls []) := lv_goto (tgt := 580) hx hb d9 ho kk
  refine lv_iload hx hb d0 h5 ?_
  refine lv_if_ne (tgt := pc + 17) hx hb d1 (by simp; omega) (fun _ => kg) (fun hz => ?_)
  refine lv_aload_n hx hb d2 rfl h3 ?_
  refine lv_iconst (v := 0) hx hb d3 (by decide +kernel) ?_
  refine va_lald (cl := cl_all) (D := D) (ws := hq_o oa cL ov) hx hb hKo hPo 0 0 (f := ov) rfl rfl (pk_in 0 1 (by decide)) d4 ?_
  refine lv_iload hx hb d5 h6 ?_
  refine lv_i2l hx hb d6 rfl ?_
  refine W.lcmp hx hb d7 ?_
  refine lv_if_eq (tgt := pc + 17) hx hb d8 (by simp; omega) (fun _ => kg) (fun h => ?_)
  exfalso
  apply h
  have e0 : ov (Int32.toNatClampNeg 0) = r.toInt64 := hov hz
  rw [e0]
  simp [lg_cmp]
end SG
