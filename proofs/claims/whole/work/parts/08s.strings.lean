/-! ===== Strings, and the road's first rules ===== -/
abbrev mJ0_coder : zD := (yJ0_coder_7d493, cJ0_coder_7d493, 1, some .byte, 0, 0)
abbrev mJ0_length : zD := (yJ0_length_8abf5, cJ0_length_8abf5, 1, some .int, 1, 20)
abbrev mJ0_isLatin1 : zD := (yJ0_isLatin1_aae02, cJ0_isLatin1_aae02, 1, some .boolean, 0, 0)
abbrev mJ3_checkIndex : zD := (yJ3_checkIndex_8e157, cJ3_checkIndex_8e157, 3, some .int, 0, 0)
abbrev mJ0_checkIndex : zD := (yJ0_checkIndex_df160, cJ0_checkIndex_df160, 2, none, 1, 22)
abbrev mJ1_charAt : zD := (yJ1_charAt_3b067, cJ1_charAt_3b067, 2, some .char, 2, 43)
abbrev mJ0_charAt : zD := (yJ0_charAt_5068e, cJ0_charAt_5068e, 2, some .char, 3, 64)
theorem lkk_coder : zLk mJ0_coder 0 := ⟨zmem 101 (by decide +kernel) rfl, zmem 486 (by decide +kernel) rfl, by decide, by decide, by decide +kernel⟩
theorem lkk_length : zLk mJ0_length 0 := ⟨zmem 101 (by decide +kernel) rfl, zmem 482 (by decide +kernel) rfl, by decide, by decide, by decide +kernel⟩
theorem lkk_isLatin1 : zLk mJ0_isLatin1 0 := ⟨zmem 101 (by decide +kernel) rfl, zmem 496 (by decide +kernel) rfl, by decide, by decide, by decide +kernel⟩
theorem lkk_charAt : zLk mJ0_charAt 1 := ⟨zmem 101 (by decide +kernel) rfl, zmem 492 (by decide +kernel) rfl, by decide, by decide, by decide +kernel⟩
theorem lkk_charAt1 : zLk mJ1_charAt 2 := ⟨zmem 102 (by decide +kernel) rfl, zmem 499 (by decide +kernel) rfl, by decide, by decide, by decide +kernel⟩
theorem lkk_checkIndex : zLk mJ0_checkIndex 2 := ⟨zmem 101 (by decide +kernel) rfl, zmem 502 (by decide +kernel) rfl, by decide, by decide, by decide +kernel⟩
theorem lkk_checkIndex3 : zLk mJ3_checkIndex 3 := ⟨zmem 103 (by decide +kernel) rfl, zmem 507 (by decide +kernel) rfl, by decide, by decide, by decide +kernel⟩
theorem lk_J0_335 : zLv RJ0 335 mJ0_coder 0 := ⟨lkk_coder, zmem 483 (by decide +kernel) rfl, zmem 484 (by decide +kernel) rfl, zmem 485 (by decide +kernel) rfl⟩
theorem lk_J0_492 : zLv RJ0 492 mJ0_isLatin1 0 := ⟨lkk_isLatin1, zmem 493 (by decide +kernel) rfl, zmem 494 (by decide +kernel) rfl, zmem 495 (by decide +kernel) rfl⟩
theorem lk_J0_495 : zLs RJ0 495 mJ1_charAt 2 := ⟨lkk_charAt1, zmem 497 (by decide +kernel) rfl, zmem 498 (by decide +kernel) rfl⟩
theorem lk_J1_9 : zLs RJ1 9 mJ0_checkIndex 2 := ⟨lkk_checkIndex, zmem 500 (by decide +kernel) rfl, zmem 501 (by decide +kernel) rfl⟩
theorem lk_J0_1059 : zLs RJ0 1059 mJ3_checkIndex 3 := ⟨lkk_checkIndex3, zmem 505 (by decide +kernel) rfl, zmem 506 (by decide +kernel) rfl⟩
theorem sw_J0_38 : Cond.fieldLink RJ0 38 "java/lang/String" "COMPACT_STRINGS" "Z" ∈ zT := zmem 487 (by decide +kernel) rfl
theorem sw_J0_9 : Cond.fieldLink RJ0 9 "java/lang/String" "value" "[B" ∈ zT := zmem 1618 (by decide +kernel) rfl
theorem sw_J0_15 : Cond.fieldLink RJ0 15 "java/lang/String" "coder" "B" ∈ zT := zmem 1619 (by decide +kernel) rfl
theorem sw_J0_1053 : Cond.fieldLink RJ0 1053 "jdk/internal/util/Preconditions" "SIOOBE_FORMATTER" "Ljava/util/function/BiFunction;" ∈ zT := zmem 503 (by decide +kernel) rfl
theorem zs_s255 : (Int16.ofInt 255).toInt32 = 255 := by decide
theorem zs_c0 : Int32.ofInt 0 = 0 := by decide
theorem zs_c1 : Int32.ofInt 1 = 1 := by decide
/-- lengths and bytes -/
theorem zs_all : ∀ i, i < 9 → ((zsb.getD i []).length = zsl.getD i 0 ∧ zsl.getD i 0 < 10 ∧ ∀ j, j < zsl.getD i 0 → ((((zsb.getD i []).getD j 0 &&& 255).toUInt32 % 65536).toInt32 = (zsb.getD i []).getD j 0 ∧ narrow .char (.int ((zsb.getD i []).getD j 0)) = .int ((zsb.getD i []).getD j 0))) := by decide +kernel
section ZQ
variable {E : zE} {d : zD} {post : Option Value → zS → Prop} {L : List (Option Value)} {S : List Value} {Y : zY} {M : zM} {σ : Type} {res : Option σ} {κ : σ → Prop} {d' : zD}
/-- a branch whose way is known -/
theorem z_ifeqF (pc : Nat) {off : Int} {tgt : Nat} {x : Int32} (hx : ¬ x = 0) (hd : decode d.2.1 pc = .ok (.ifCond .eq off, 3)) (ht : (pc : Int) + off = (tgt : Int)) (h : zK E d post (pc + 3) L S (Y, M) res κ) : zK E d post pc L (.int x :: S) (Y, M) res κ :=
  zk_row (fun C _ _ _ _ k => lv_if_eq C.1 C.2.1 hd ht (fun q => absurd q hx) (fun _ => k)) h
theorem z_ifneF (pc : Nat) {off : Int} {tgt : Nat} {x : Int32} (hx : x = 0) (hd : decode d.2.1 pc = .ok (.ifCond .ne off, 3)) (ht : (pc : Int) + off = (tgt : Int)) (h : zK E d post (pc + 3) L S (Y, M) res κ) : zK E d post pc L (.int x :: S) (Y, M) res κ :=
  zk_row (fun C _ _ _ _ k => lv_if_ne C.1 C.2.1 hd ht (fun q => absurd hx q) (fun _ => k)) h
theorem z_ifltF (pc : Nat) {off : Int} {tgt : Nat} {x : Int32} (hx : ¬ x < 0) (hd : decode d.2.1 pc = .ok (.ifCond .lt off, 3)) (ht : (pc : Int) + off = (tgt : Int)) (h : zK E d post (pc + 3) L S (Y, M) res κ) : zK E d post pc L (.int x :: S) (Y, M) res κ :=
  zk_row (fun C _ _ _ _ k => lv_if_lt C.1 C.2.1 hd ht (fun q => absurd q hx) (fun _ => k)) h
theorem z_icltT (pc tgt : Nat) {off : Int} {x y : Int32} (hx : x < y) (hd : decode d.2.1 pc = .ok (.if_icmp .lt off, 3)) (ht : (pc : Int) + off = (tgt : Int)) (h : zK E d post tgt L S (Y, M) res κ) : zK E d post pc L (.int y :: .int x :: S) (Y, M) res κ :=
  zk_row (fun C _ _ _ _ k => lv_icmp_lt C.1 C.2.1 hd ht (fun _ => k) (fun q => absurd hx q)) h
/-- a String's byte row -/
theorem z_sblen (pc : Nat) {i : Nat} (hi : i < 9) (hd : decode d.2.1 pc = .ok (.arraylength, 1)) (h : zK E d post (pc + 1) L (.int (Int32.ofNat (zsl.getD i 0)) :: S) (Y, M) res κ) : zK E d post pc L (.ref (1030 + i) :: S) (Y, M) res κ :=
  zk_row (fun C _ _ hS _ k => va_tlen C.1 C.2.1 (C.2.2.2.2.2.2.1.2.2.1.1.1 i hi).2.2.2 hS rfl hd k) h
theorem z_sbld (pc : Nat) {i : Nat} {j : Int32} (hi : i < 9) (hj : vp_in j (zsl.getD i 0)) (hd : decode d.2.1 pc = .ok (.baload, 1)) (h : zK E d post (pc + 1) L (.int ((zsb.getD i []).getD (zn j) 0) :: S) (Y, M) res κ) : zK E d post pc L (.int j :: .ref (1030 + i) :: S) (Y, M) res κ :=
  zk_row (fun C _ _ hS _ k => va_tb C.1 C.2.1 (C.2.2.2.2.2.2.1.2.2.1.1.1 i hi).2.2.2 hS hj rfl hd k) h
theorem z_sio (pc : Nat) {idx : Nat} (hl : Cond.fieldLink d.1.cls idx "jdk/internal/util/Preconditions" "SIOOBE_FORMATTER" "Ljava/util/function/BiFunction;" ∈ zT) (hd : decode d.2.1 pc = .ok (.getstatic idx, 3)) (h1 : zK E d post (pc + 3) L (.null :: S) (Y, M) res κ) (h2 : zK E d post (pc + 3) L (.ref 1002 :: S) (Y, M) res κ) : zK E d post pc L S (Y, M) res κ := by
  intro q p e R s m args below meth c H locs cells slots Q ls C hc hP hS hl0 hQ
  rcases C.2.2.2.2.2.2.1.2.2.1.2.2 with hz | hz
  · exact va_gets C.1 C.2.1 hz hS C.2.2.2.1 (C.2.2.2.2.1 _ hl) (fun _ h => h) hd (h1 q p e R s m args below meth c H locs cells slots Q ls C hc hP hS hl0 hQ)
  · exact va_gets C.1 C.2.1 hz hS C.2.2.2.1 (C.2.2.2.2.1 _ hl) (fun _ h => h) hd (h2 q p e R s m args below meth c H locs cells slots Q ls C hc hP hS hl0 hQ)
/-- a call on a String -/
theorem zat_str (pc : Nat) {idx n i : Nat} {As : List Value} (hi : i < 9) (hd : decode d.2.1 pc = .ok (.invokevirtual idx, 3)) (hl : zLv d.1.cls idx d' n) (hn : As.length = n) (hq : d'.1.cls = "java/lang/String") (hr : zRm d d') (hs : (S.map fun v => v.category).sum ≤ 8) : zAt E d pc (As.reverse ++ .ref (1010 + i) :: S) L S (Y, M) d' (.ref (1010 + i) :: As) := by
  intro post post' hM hk p e R s m args below meth c H locs cells slots Q ls C hcs hP hS hl0 hQ
  obtain ⟨hx, hb, hml, hown, hts, hK, hX, hf, hlo⟩ := id C
  have cw : CallW R s args d.1.cls d'.1.cls idx d'.1 d'.2.1 d'.2.2.1 d'.2.2.2.1 (zwd d') (zrm d') 0 0 n := ⟨callB_of n hts (zwd_good hl.1) rfl rfl rfl (hts _ hl.1.1) (hts _ hl.2.1) hl.1.2.2 ⟨Nat.le_trans hr.1 hf, Nat.le_trans hr.2 hlo⟩, hts _ hl.2.2.1, hts _ hl.2.2.2⟩
  have hrec := vk_recv hX.2.2.1.1 hi hS
  rw [← hq] at hrec
  have hst : (As.reverse ++ .ref (1010 + i) :: S).map (zcv E) = (As.map (zcv E)).reverse ++ .ref (E.2.1 (1010 + i)) :: S.map (zcv E) := by simp [zcv]
  rw [hst]
  refine zcall (va_runV (As := As.map (zcv E)) (rest := S.map (zcv E)) (b := E.2.1 (1010 + i)) ⟨hx, hb, hml, hown, hts⟩ hM cw ⟨zpre_blind, hrec, fun U hU hW => ⟨rfl, zpre_of hP hK hX hS hU hW⟩⟩ rfl (by simpa using hn) hl0.1 rfl (lv_room (by rw [zcv_sum]; exact hs)) hd hcs) hS (fun v st' H1 locs1 hp hP1 hS1 => ?_)
  have h1 := hk v st' hp p e R s m args below meth c H1 locs1 cells slots Q ls C hcs hP1 hS1 hl0 hQ
  have h2 : (v.toList ++ S).map (zcv E) = (v.map (zcv E)).toList ++ S.map (zcv E) := by cases v <;> simp
  rw [h2] at h1
  exact h1
end ZQ
theorem plJ0 : plainName RJ0 = true := by decide
theorem plJ1 : plainName RJ1 = true := by decide
theorem plJ3 : plainName RJ3 = true := by decide
theorem ts_coder (E : zE) (Y : zY) (M : zM) {i : Nat} (hi : i < 9) : zFi E mJ0_coder [.ref (1010 + i)] Y M (some 0) := by
  refine zF_of (L := [some (.ref (1010 + i))]) plJ0 (Nat.le_of_ble_eq_true rfl) rfl (fun post => ?_)
  refine z_scom 0 sw_J0_38 dJ0_coder_7d493_0 ?_
  refine z_ifeqF 3 (tgt := 13) (by decide) dJ0_coder_7d493_3 (by decide) ?_
  refine z_aload_n 6 dJ0_coder_7d493_6 rfl ?_
  refine z_scod 7 hi sw_J0_15 dJ0_coder_7d493_7 ?_
  refine z_goto 10 14 dJ0_coder_7d493_10 (by decide) ?_
  exact z_ireturn 14 dJ0_coder_7d493_14 rfl (by decide) (fun h => h)
theorem zshr0 (n : Nat) : Int32.ofNat n >>> ((0 : Int32) &&& 31) = Int32.ofNat n := sb_shr0 _
theorem ts_length (E : zE) (Y : zY) (M : zM) {i : Nat} (hi : i < 9) : zFi E mJ0_length [.ref (1010 + i)] Y M (some (Int32.ofNat (zsl.getD i 0))) := by
  refine zF_of (L := [some (.ref (1010 + i))]) plJ0 (Nat.le_of_ble_eq_true rfl) rfl (fun post => ?_)
  refine z_aload_n 0 dJ0_length_8abf5_0 rfl ?_
  refine z_sval 1 hi sw_J0_9 dJ0_length_8abf5_1 ?_
  refine z_sblen 4 hi dJ0_length_8abf5_4 ?_
  refine z_aload_n 5 dJ0_length_8abf5_5 rfl ?_
  refine z_cti0 (zat_str 6 (As := []) hi dJ0_length_8abf5_6 lk_J0_335 rfl rfl ⟨Nat.le_of_ble_eq_true rfl, Nat.le_of_ble_eq_true rfl⟩ (Nat.le_of_ble_eq_true rfl)) (ts_coder E Y M hi) ?_
  refine z_ishr 9 dJ0_length_8abf5_9 ?_
  refine z_ireturn 10 dJ0_length_8abf5_10 rfl rfl (fun h => ?_)
  rw [zshr0]
  exact h
theorem ts_isLatin1 (E : zE) (Y : zY) (M : zM) {i : Nat} (hi : i < 9) : zFb E mJ0_isLatin1 [.ref (1010 + i)] Y M (some true) := by
  refine zF_of (L := [some (.ref (1010 + i))]) plJ0 (Nat.le_of_ble_eq_true rfl) rfl (fun post => ?_)
  refine z_scom 0 sw_J0_38 dJ0_isLatin1_aae02_0 ?_
  refine z_ifeqF 3 (tgt := 17) (by decide) dJ0_isLatin1_aae02_3 (by decide) ?_
  refine z_aload_n 6 dJ0_isLatin1_aae02_6 rfl ?_
  refine z_scod 7 hi sw_J0_15 dJ0_isLatin1_aae02_7 ?_
  refine z_ifneF 10 (tgt := 17) rfl dJ0_isLatin1_aae02_10 (by decide) ?_
  refine z_iconst 13 dJ0_isLatin1_aae02_13 zs_c1 ?_
  refine z_goto 14 18 dJ0_isLatin1_aae02_14 (by decide) ?_
  exact z_ireturn 18 (v := zb true) dJ0_isLatin1_aae02_18 rfl (zput_b true).1 (fun h => h)
theorem ts_checkIndex3 (E : zE) (Y : zY) (M : zM) {j n : Int32} (h1 : ¬ j < 0) (h2 : j < n) (w : Value) (hw : w = .null ∨ w = .ref 1002) : zFi E mJ3_checkIndex [.int j, .int n, w] Y M (some j) := by
  have key : ∀ post : Option Value → zS → Prop, zK E mJ3_checkIndex post 0 [some (.int j), some (.int n), some w] [] (Y, M) (some j) (fun x => post (some (.int x)) (Y, M)) := by
    intro post
    refine z_iload_n 0 dJ3_checkIndex_8e157_0 rfl ?_
    refine z_ifltF 1 (tgt := 9) h1 dJ3_checkIndex_8e157_1 (by decide) ?_
    refine z_iload_n 4 dJ3_checkIndex_8e157_4 rfl ?_
    refine z_iload_n 5 dJ3_checkIndex_8e157_5 rfl ?_
    refine z_icltT 6 16 h2 dJ3_checkIndex_8e157_6 (by decide) ?_
    refine z_iload_n 16 dJ3_checkIndex_8e157_16 rfl ?_
    exact z_ireturn 17 dJ3_checkIndex_8e157_17 rfl rfl (fun h => h)
  rcases hw with rfl | rfl
  · exact zF_of (L := [some (.int j), some (.int n), some .null]) plJ3 (Nat.le_of_ble_eq_true rfl) rfl key
  · exact zF_of (L := [some (.int j), some (.int n), some (.ref 1002)]) plJ3 (Nat.le_of_ble_eq_true rfl) rfl key
theorem ts_checkIndex (E : zE) (Y : zY) (M : zM) {j n : Int32} (h1 : ¬ j < 0) (h2 : j < n) : zFv E mJ0_checkIndex [.int j, .int n] Y M (some ()) := by
  refine zF_of (L := [some (.int j), some (.int n)]) plJ0 (Nat.le_of_ble_eq_true rfl) rfl (fun post => ?_)
  refine z_iload_n 0 dJ0_checkIndex_df160_0 rfl ?_
  refine z_iload_n 1 dJ0_checkIndex_df160_1 rfl ?_
  refine z_sio 2 sw_J0_1053 dJ0_checkIndex_df160_2 ?_ ?_
  · refine z_cti0 (zat_S3 5 dJ0_checkIndex_df160_5 lk_J0_1059 ⟨Nat.le_of_ble_eq_true rfl, Nat.le_of_ble_eq_true rfl⟩ (Nat.le_of_ble_eq_true rfl)) (ts_checkIndex3 E Y M h1 h2 .null (Or.inl rfl)) ?_
    refine z_pop 8 dJ0_checkIndex_df160_8 rfl ?_
    exact z_return 9 dJ0_checkIndex_df160_9 rfl (fun h => h)
  · refine z_cti0 (zat_S3 5 dJ0_checkIndex_df160_5 lk_J0_1059 ⟨Nat.le_of_ble_eq_true rfl, Nat.le_of_ble_eq_true rfl⟩ (Nat.le_of_ble_eq_true rfl)) (ts_checkIndex3 E Y M h1 h2 (.ref 1002) (Or.inr rfl)) ?_
    refine z_pop 8 dJ0_checkIndex_df160_8 rfl ?_
    exact z_return 9 dJ0_checkIndex_df160_9 rfl (fun h => h)
theorem z_cv0 {E : zE} {d d' : zD} {post : Option Value → zS → Prop} {L : List (Option Value)} {S : List Value} {Y : zY} {M : zM} {σ : Type} {res : Option σ} {κ : σ → Prop} {pc : Nat} {S0 As : List Value} (ha : zAt E d pc S0 L S (Y, M) d' As) (hM : zFv E d' As Y M (some ())) (hk : zK E d post (pc + 3) L S (Y, M) res κ) : zK E d post pc L S0 (Y, M) res κ :=
  fun hq => ha post (fun w st' => w = none ∧ st' = (Y, M)) (hM _ ⟨(), rfl, rfl, rfl⟩) (by rintro w st' ⟨rfl, rfl⟩; exact hk hq)
theorem zs_in {i : Nat} {j : Int32} (hi : i < 9) (hj : zix j (zsl.getD i 0)) : ¬ j < 0 ∧ j < Int32.ofNat (zsl.getD i 0) ∧ zn j < zsl.getD i 0 := by
  have h9 := (zs_all i hi).2.1
  obtain ⟨k, hk, rfl⟩ := vp_in_of (zix_in hj) (by omega)
  have e : zn (nI k) = k := nI_clamp (by omega)
  exact ⟨nI_pos (by omega), nI_lt hk (by omega), by rw [e]; exact hk⟩
theorem ts_charAt1 (E : zE) (Y : zY) (M : zM) {i : Nat} {j : Int32} (hi : i < 9) (hj : zix j (zsl.getD i 0)) : zFi E mJ1_charAt [.ref (1030 + i), .int j] Y M (some ((zsb.getD i []).getD (zn j) 0)) := by
  obtain ⟨h1, h2, h3⟩ := zs_in hi hj
  obtain ⟨-, -, ha⟩ := zs_all i hi
  refine zF_of (L := [some (.ref (1030 + i)), some (.int j)]) plJ1 (Nat.le_of_ble_eq_true rfl) rfl (fun post => ?_)
  refine z_iload_n 0 dJ1_charAt_3b067_0 rfl ?_
  refine z_aload_n 1 dJ1_charAt_3b067_1 rfl ?_
  refine z_sblen 2 hi dJ1_charAt_3b067_2 ?_
  refine z_cv0 (zat_S2 3 dJ1_charAt_3b067_3 lk_J1_9 ⟨Nat.le_of_ble_eq_true rfl, Nat.le_of_ble_eq_true rfl⟩ (Nat.le_of_ble_eq_true rfl)) (ts_checkIndex E Y M h1 h2) ?_
  refine z_aload_n 6 dJ1_charAt_3b067_6 rfl ?_
  refine z_iload_n 7 dJ1_charAt_3b067_7 rfl ?_
  refine z_sbld 8 hi (zix_in hj) dJ1_charAt_3b067_8 ?_
  refine z_sipush 9 dJ1_charAt_3b067_9 zs_s255 ?_
  refine z_iand 12 dJ1_charAt_3b067_12 ?_
  refine z_i2c 13 dJ1_charAt_3b067_13 ?_
  rw [(ha _ h3).1]
  exact z_ireturn 14 dJ1_charAt_3b067_14 rfl (ha _ h3).2 (fun h => h)
theorem ts_charAt (E : zE) (Y : zY) (M : zM) {i : Nat} {j : Int32} (hi : i < 9) (hj : zix j (zsl.getD i 0)) : zFi E mJ0_charAt [.ref (1010 + i), .int j] Y M (some ((zsb.getD i []).getD (zn j) 0)) := by
  obtain ⟨-, -, h3⟩ := zs_in hi hj
  obtain ⟨-, -, ha⟩ := zs_all i hi
  refine zF_of (L := [some (.ref (1010 + i)), some (.int j)]) plJ0 (Nat.le_of_ble_eq_true rfl) rfl (fun post => ?_)
  refine z_aload_n 0 dJ0_charAt_5068e_0 rfl ?_
  refine z_ctb0 (zat_str 1 (As := []) hi dJ0_charAt_5068e_1 lk_J0_492 rfl rfl ⟨Nat.le_of_ble_eq_true rfl, Nat.le_of_ble_eq_true rfl⟩ (Nat.le_of_ble_eq_true rfl)) (ts_isLatin1 E Y M hi) ?_
  refine z_ifeqF 4 (tgt := 16) (by decide) dJ0_charAt_5068e_4 (by decide) ?_
  refine z_aload_n 7 dJ0_charAt_5068e_7 rfl ?_
  refine z_sval 8 hi sw_J0_9 dJ0_charAt_5068e_8 ?_
  refine z_iload_n 11 dJ0_charAt_5068e_11 rfl ?_
  refine z_cti0 (zat_S2 12 dJ0_charAt_5068e_12 lk_J0_495 ⟨Nat.le_of_ble_eq_true rfl, Nat.le_of_ble_eq_true rfl⟩ (Nat.le_of_ble_eq_true rfl)) (ts_charAt1 E Y M hi hj) ?_
  exact z_ireturn 15 dJ0_charAt_5068e_15 rfl (ha _ h3).2 (fun h => h)
section ZQ2
variable {E : zE} {d : zD} {post : Option Value → zS → Prop} {L : List (Option Value)} {S : List Value} {Y : zY} {M : zM} {σ : Type} {res : Option σ} {κ : σ → Prop} {d' : zD}
theorem z_strlen (pc : Nat) {idx a : Nat} (hd : decode d.2.1 pc = .ok (.invokevirtual idx, 3)) (hl : zLv d.1.cls idx mJ0_length 0) (ha : zstr a) (hr : 2 ≤ d.2.2.2.2.1 ∧ (S.map fun v => v.category).sum + 32 ≤ d.2.2.2.2.2) (hq : 40 ≤ d.2.2.2.2.2) (hs : (S.map fun v => v.category).sum ≤ 8)
    (h : zK E d post (pc + 3) L (.int (zslen a) :: S) (Y, M) res κ) : zK E d post pc L (.ref a :: S) (Y, M) res κ := by
  obtain ⟨h1, h2⟩ := ha
  obtain ⟨i, rfl⟩ : ∃ i, a = 1010 + i := ⟨a - 1010, by omega⟩
  have hi : i < 9 := by omega
  have e : zslen (1010 + i) = Int32.ofNat (zsl.getD i 0) := by
    unfold zslen zsln
    rw [Nat.add_sub_cancel_left]
  rw [e] at h
  exact z_cti0 (zat_str pc (As := []) hi hd hl rfl rfl ⟨hr.1, hq⟩ hs) (ts_length E Y M hi) h
theorem z_strcat (pc : Nat) {idx a : Nat} {j : Int32} (hd : decode d.2.1 pc = .ok (.invokevirtual idx, 3)) (hl : zLv d.1.cls idx mJ0_charAt 1) (ha : zstr a) (hr : 4 ≤ d.2.2.2.2.1 ∧ (S.map fun v => v.category).sum + 70 ≤ d.2.2.2.2.2) (hq : 85 ≤ d.2.2.2.2.2) (hs : (S.map fun v => v.category).sum ≤ 8)
    (h : zK E d post (pc + 3) L (.int (zsch a (zn j)) :: S) (Y, M) res κ) : zK E d post pc L (.int j :: .ref a :: S) (Y, M) (grd (zix j (zsln a)) res) κ := by
  obtain ⟨h1, h2⟩ := ha
  obtain ⟨i, rfl⟩ : ∃ i, a = 1010 + i := ⟨a - 1010, by omega⟩
  have hi : i < 9 := by omega
  have e : zsch (1010 + i) (zn j) = (zsb.getD i []).getD (zn j) 0 := by
    unfold zsch
    rw [Nat.add_sub_cancel_left]
  have e2 : zsln (1010 + i) = zsl.getD i 0 := by
    unfold zsln
    rw [Nat.add_sub_cancel_left]
  rw [e] at h
  rw [e2]
  exact zk_grd fun hj => z_cti0 (zat_str pc (As := [.int j]) hi hd hl rfl rfl ⟨hr.1, hq⟩ hs) (ts_charAt E Y M hi hj) h
/-- a copy out of the row AT_FIRST -/
theorem z_copyaf (pc : Nat) {idx b n1 : Nat} {sp dp n : Int32} {r1 : List (Option Nat)} (hd : decode d.2.1 pc = .ok (.invokestatic idx, 3)) (hl : Cond.methodLink d.1.cls idx arraycopyName ∈ zT) (hnat : Cond.native arraycopyName ∈ zT) (hsta : Cond.static arraycopyName ∈ zT) (hini : Cond.initialized "java/lang/System" ∈ zT)
    (hY1 : Y[b]? = some (.inr (0, n1, r1))) (hr : 1 ≤ d.2.2.2.2.1 ∧ (S.map fun v => v.category).sum + 18 ≤ d.2.2.2.2.2)
    (h : zK E d post (pc + 3) L S (Y, zwA M b (va_cpy zAF (M.1 b) (zn sp) (zn dp) (zn n))) res κ) : zK E d post pc L (.int n :: .int dp :: .ref b :: .int sp :: .ref 1001 :: S) (Y, M) (grd (zcp sp dp n 10 n1) res) κ := by
  refine zk_grd fun hi q0 p e R s m args below meth c H locs cells slots Q ls C hc hP hS hl0 hQ => ?_
  have hts := C.2.2.2.2.1
  obtain ⟨g1, g2, g3, g4, g5⟩ := hi
  have k1 := znn g1
  have k2 := znn g2
  have k3 := znn g3
  have nn : ∀ z : Int32, 0 ≤ z.toInt → z.toInt = (zn z : Int) := fun z hz => by
    show z.toInt = ((z.toInt.toNat : Nat) : Int)
    omega
  intro T hT X
  obtain ⟨src, s1, ⟨s6, kk0, hk0, cm0, hkk0⟩, s3, s4, -, s5, s7⟩ := C.2.2.2.2.2.2.1.2.1.2
  have w1 : (zW E (Y, M))[b]? = some (E.2.1 b, .inl (E.2.2.2.2.1 0, n1, .inl (M.1 b))) := zW_get hY1
  have c0 : H[E.2.1 1001]? = some src := by rw [hS.2.1 _ (Array.getElem?_eq_some_iff.mp s1).1 s7]; exact s1
  have c1 : H[E.2.1 b]? = some (vp_cell (E.2.2.2.2.1 0) (n1, .inl (M.1 b))) := hP.1 b _ w1
  obtain ⟨-, kk1, hk1, cm1, hkk1⟩ := (C.2.2.2.2.2.1.2 0 _ rfl).1 n1 (fun j => .int (M.1 b j))
  have hlo : (S.map (zcv E)).map (fun v => v.category) = S.map (fun v => v.category) := by
    rw [List.map_map]
    exact List.map_congr_left fun v _ => zcv_cat v
  have hroom := Nat.le_trans hr.2 C.2.2.2.2.2.2.2.2
  rw [← hlo] at hroom
  obtain ⟨vm', X', step⟩ := X.arraycopy C.1 C.2.2.2.1 (hts _ hl) (hts _ hnat) (hts _ hsta) (hts _ hini) (src := E.2.1 1001) (dst := E.2.1 b) (cs := src) (cd := vp_cell (E.2.2.2.2.1 0) (n1, .inl (M.1 b))) (srcPos := sp) (destPos := dp) (n := n) (by rw [hT]; exact c0) (by rw [hT]; exact c1)
    s6 (fun _ h => by cases h) s3 (fun h => by cases h) hk0 hk1 hkk0 hkk1 (by simp [refKind]) k1 k2 k3
    (by rw [nn sp g1, nn n g3]; omega)
    (by rw [nn dp g2, nn n g3]; show ¬ _ > ((arrV (E.2.2.2.2.1 0) n1 (fun j => .int (M.1 b j))).slots.size : Int); rw [arrV_size]; omega)
    (fun vm₁ _ i hlt => by
      have e : src.slots.getD (sp.toNatClampNeg + i) .null = .int (zAF (sp.toNatClampNeg + i)) := by
        rw [Array.getD_eq_getD_getElem?, s5 _ (by have : sp.toNatClampNeg + n.toNatClampNeg ≤ 10 := g4; omega)]
        rfl
      exact ⟨by rw [e]; rfl, by rw [e]; exact trivial⟩)
    (g := F0 m pc ls (.int n :: .int dp :: .ref (E.2.1 b) :: .int sp :: .ref (E.2.1 1001) :: S.map (zcv E))) rfl (by rw [C.2.2.1]; exact hl0.1) (rest := S.map (zcv E)) rfl (by rw [C.2.1]; exact hd) (Nat.le_trans hr.1 C.2.2.2.2.2.2.2.1) (by show 2 * 0 + _ + (5 + 2 + 11) ≤ _; omega)
  have e1 : copied src (vp_cell (E.2.2.2.2.1 0) (n1, .inl (M.1 b))) sp dp n = vp_cell (E.2.2.2.2.1 0) (n1, .inl (va_cpy zAF (M.1 b) (zn sp) (zn dp) (zn n))) := va_copiedX (fun z => .int z) src (E.2.2.2.2.1 0) zAF (M.1 b) (fun j hj => s5 j hj) g4
  rw [e1] at X' step
  have hlb : E.2.1 b < H.size := (Array.getElem?_eq_some_iff.mp c1).1
  have hheap : ((T.setVm vm').setCell (E.2.1 b) (vp_cell (E.2.2.2.2.1 0) (n1, .inl (va_cpy zAF (M.1 b) (zn sp) (zn dp) (zn n))))).heap = H.setIfInBounds (E.2.1 b) (vp_cell (E.2.2.2.2.1 0) (n1, .inl (va_cpy zAF (M.1 b) (zn sp) (zn dp) (zn n)))) := by rw [← hT]; rfl
  have oq : ∀ q : Nat, q ≠ E.2.1 b → (H.setIfInBounds (E.2.1 b) (vp_cell (E.2.2.2.2.1 0) (n1, .inl (va_cpy zAF (M.1 b) (zn sp) (zn dp) (zn n)))))[q]? = H[q]? := fun q hq => by simp [Array.getElem?_setIfInBounds, Ne.symm hq]
  have hP1 := hP.1.set hP.2 w1 (e := .inl (E.2.2.2.2.1 0, n1, .inl (va_cpy zAF (M.1 b) (zn sp) (zn dp) (zn n)))) (show (H.setIfInBounds (E.2.1 b) _)[E.2.1 b]? = some _ by simp [Array.getElem?_setIfInBounds, hlb]) oq
  have hz := zP_set (M := M) (M' := zwA M b (va_cpy zAF (M.1 b) (zn sp) (zn dp) (zn n))) hY1 (fun _ hj => zup_n _ _ hj) (fun _ _ => rfl) (zel_A (by decide) (by decide)) hP1 (hP.2.set w1)
  obtain ⟨t, a1, b1⟩ := h q0 p e R s m args below meth c _ _ cells slots Q ls C hc hz ⟨by simp; exact hS.1, fun q y1 y2 => by
      rw [oq q (fun e => y2 (by rw [e]; exact hP.2.2 b _ w1))]
      exact hS.2.1 q y1 y2, fun q hq => by
      rcases List.mem_append.mp hq with h | h
      · exact hS.2.2 q h
      · obtain ⟨z, -, hz⟩ := List.mem_map.mp h
        rw [← hz]
        exact hP.2.2 b _ w1⟩ hl0 hQ _ hheap X'
  exact ⟨t, step t a1, b1⟩
end ZQ2
