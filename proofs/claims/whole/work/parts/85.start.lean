/-! the law: from its entry -/

set_option maxHeartbeats 4000000 in
set_option maxRecDepth 20000 in
theorem whole_start {p : Program} {e : Env} {s : State} {m : MethodId} {below : List Frame} {meth : Method} {c : Code} (l : Launch) (hflags : l.flags = flags0) {b L : Nat} {xs : Nat → Int32} (hL : L ≤ 3072) (C0 : lw_At p s m meth c b L xs) : W p l e room_1 s m #[Value.ref b] below meth c s.heap [] 0 0 (lw_Z below #[Value.ref b] s) (entryFrame m ([Value.ref b] : List Value).toArray 4) := by
  obtain ⟨Z, C1⟩ := law_Z C0
  have C : zC Z (AH s) p s m #[Value.ref b] meth c cL_law 4 RL ret := C1
  have hst : l.stackTraces = false := (by rw [show l.stackTraces = !l.flags.contains Jvm.noTraceFlag from rfl, hflags]; decide +kernel)
  have hx := C0.1
  have hb := C0.2.1
  have hl := lv_entry ([.ref b]) (n := 4) (Nat.le_of_ble_eq_true rfl)
  rw [lg_entry_eq]
  generalize (lg_sl ([.ref b]) ++ List.replicate (4 - (lg_sl ([.ref b])).length) Slot.unset).toArray = ls at hl ⊢
  have hl : lv_has ls 4 [(0, .ref b)] := hl
  have hS : va_S (AH s) s.heap s.heap [] := va_S.rf
  refine z_new C bi_wsX110 tyX11 tyX11_ok (rfl : vwCl[7]? = some (RX11, TX11, 5)) zw_1_0 zw_1_1 zw_1_2 (fs := [.null, .null, .null, .int 0, .int 0]) (fun j hj => match j, hj with | 0, _ => rfl | 1, _ => rfl | 2, _ => rfl | 3, _ => rfl | 4, _ => rfl) (Nat.le_of_ble_eq_true rfl) (Nat.le_of_ble_eq_true rfl) hS dL_law_0 (fun H a1 a2 a3 hS => ?_)
  generalize hoe : s.heap.size = o at a1 a2 a3 ⊢
  refine lv_dup hx hb dL_law_3 rfl ?_
  have hM : bW Z H o 7 (o + 1) [.null, .null, .null, .int 0, .int 0] [] := ⟨a1, Nat.lt_succ_self _, a2, fun j e he => absurd he (by simp)⟩
  refine z_callI C (As := []) (rest := [.ref o]) (c_X11_init l Z hM) ⟨⟨zw_1_8, zw_1_2, zw_1_6⟩, zd_X11_init⟩ zw_1_7 rfl ⟨Nat.le_of_ble_eq_true rfl, Nat.le_of_ble_eq_true rfl⟩ ⟨rfl, rfl⟩ rfl hl.1 rfl (Nat.le_of_ble_eq_true rfl) dL_law_4 ⟨Nat.le_of_ble_eq_true rfl, Nat.le_of_ble_eq_true rfl⟩ hS (fun q h => by rcases h with h | h <;> (show s.heap.size ≤ q; omega)) (fun v H locs hp_ hS _ _ => ?_)
  obtain ⟨rfl, hM⟩ := hp_
  obtain ⟨hR, hC1, hC2, ha⟩ := new_isC hM
  refine lv_astore_n (lv' := [(1, .ref o), (0, .ref b)]) hx hb dL_law_7 rfl hl (by decide) rfl (fun ls hl => ?_)
  refine z_new C bi_wsX120 tyX12 tyX12_ok (rfl : vwCl[8]? = some (RX12, TX12, 52)) zw_1_3 zw_1_4 zw_1_5 (fs := nF g0) (fun j hj => match j, hj with | 0, _ => rfl | 1, _ => rfl | 2, _ => rfl | 3, _ => rfl | 4, _ => rfl | 5, _ => rfl | 6, _ => rfl | 7, _ => rfl | 8, _ => rfl | 9, _ => rfl | 10, _ => rfl | 11, _ => rfl | 12, _ => rfl | 13, _ => rfl | 14, _ => rfl | 15, _ => rfl | 16, _ => rfl | 17, _ => rfl | 18, _ => rfl | 19, _ => rfl | 20, _ => rfl | 21, _ => rfl | 22, _ => rfl | 23, _ => rfl | 24, _ => rfl | 25, _ => rfl | 26, _ => rfl | 27, _ => rfl | 28, _ => rfl | 29, _ => rfl | 30, _ => rfl | 31, _ => rfl | 32, _ => rfl | 33, _ => rfl | 34, _ => rfl | 35, _ => rfl | 36, _ => rfl | 37, _ => rfl | 38, _ => rfl | 39, _ => rfl | 40, _ => rfl | 41, _ => rfl | 42, _ => rfl | 43, _ => rfl | 44, _ => rfl | 45, _ => rfl | 46, _ => rfl | 47, _ => rfl | 48, _ => rfl | 49, _ => rfl | 50, _ => rfl | 51, _ => rfl | j + 52, hj => absurd hj (Nat.not_lt.mpr (Nat.le_add_left 52 j))) (Nat.le_of_ble_eq_true rfl) (Nat.le_of_ble_eq_true rfl) hS dL_law_8 (fun H1 a1 a2 a3 hS => ?_)
  generalize hqe : H.size = oM at a1 a2 a3 ⊢
  refine lv_dup hx hb dL_law_11 rfl ?_
  refine z_callI C (As := []) (rest := [.ref oM]) (c_X12_init l hst Z a1 a2) ⟨⟨zw_4_15, zw_1_5, zw_4_13⟩, zd_X12_init⟩ zw_4_14 rfl ⟨Nat.le_of_ble_eq_true rfl, Nat.le_of_ble_eq_true rfl⟩ ⟨rfl, rfl⟩ rfl hl.1 rfl (Nat.le_of_ble_eq_true rfl) dL_law_12 ⟨Nat.le_of_ble_eq_true rfl, Nat.le_of_ble_eq_true rfl⟩ hS (fun q h => by have := hR.lt; rcases h with h | h <;> (show s.heap.size ≤ q; omega)) (fun v H2 locs hp_ hS _ hkk => ?_)
  obtain ⟨rfl, adM, hMM, hge⟩ := hp_
  refine lv_astore_n (lv' := [(2, .ref oM), (1, .ref o), (0, .ref b)]) hx hb dL_law_15 rfl hl (by decide) rfl (fun ls hl => ?_)
  refine lv_iconst (v := zI ((0 : Nat) : Int)) hx hb dL_law_16 (by decide) ?_
  refine lv_istore_n (lv' := [(3, zN 0), (2, .ref oM), (1, .ref o), (0, .ref b)]) hx hb dL_law_17 rfl hl (by decide) rfl (fun ls hl => ?_)
  have hk : ∀ q : Nat, q < H.size → H2[q]? = H[q]? := fun q hq => (hkk q (by omega) (fun z => by rcases z with z | z <;> omega)).trans (a3 q (by omega))
  have hol : o < H.size := hR.lt
  have hl1 : ∀ i, i < 40 → imAd (o + 1 + 1) (o + 1) i < H.size := fun i hi => hC1.lt hi
  have hl2 : ∀ i, i < 40 → imAd (o + 1 + 40) (o + 1) i < H.size := fun i hi => hC2.lt hi
  have hm : ∀ q, mA oM adM q → oM ≤ q := fun q hq => by
    rcases hq with rfl | ⟨k, hk, rfl⟩
    · exact Nat.le_refl _
    · have := hge k hk; omega
  have hR := hR.kept (hk o hol)
  have hC1 := hC1.keep (fun i hi => hk _ (hl1 i hi)) (fun q hq => absurd hq List.not_mem_nil)
  have hC2 := hC2.keep (fun i hi => hk _ (hl2 i hi)) (fun q hq => absurd hq List.not_mem_nil)
  have hI : lwI Z (AH s) o oM H2 := ⟨imAd (o + 1 + 1) (o + 1), imAd (o + 1 + 40) (o + 1), adM, τ0, τ0, σ0, fun _ => 0, 0, 0, 0, ⟨hR, ha, hC1, hC2, hMM⟩, fun q hq => ?_, ⟨?_, fun i hi => ?_, fun i hi => ?_, fun q hq => ?_⟩, ⟨fun _ => (by decide : 0 < 256), by decide, by decide, rfl, rfl, rfl⟩, fun j hj => absurd hj (Nat.not_lt_zero _), rfl, Or.inl ⟨rfl, ⟨rfl, rfl, rfl, rfl⟩, rfl, rfl, rfl⟩⟩
  · refine W.widen (k := 107 + 25 * 0) (n := 350676 + 100 * 0) (Nat.le_of_ble_eq_true rfl) (Nat.le_of_ble_eq_true rfl) ?_
    exact law_loop hL C0 C1 (L + 1) 0 0 rfl (by omega) (by omega) H2 locs hI hS ls (lv_sub hl [3, 2, 1, 0] rfl)
  · have h1 := hm q hq
    refine ⟨fun z => by omega, fun i hi z => ?_, fun i hi z => ?_⟩
    · have := hl1 i hi; omega
    · have := hl2 i hi; omega
  · show s.heap.size ≤ o; omega
  · show s.heap.size ≤ imAd (o + 1 + 1) (o + 1) i
    rcases imAd_c (o + 1 + 1) (o + 1) i with h | h | h | h <;> omega
  · show s.heap.size ≤ imAd (o + 1 + 40) (o + 1) i
    rcases imAd_c (o + 1 + 40) (o + 1) i with h | h | h | h <;> omega
  · show s.heap.size ≤ q
    have := hm q hq; omega
