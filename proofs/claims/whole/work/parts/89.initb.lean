set_option maxHeartbeats 4000000 in
set_option maxRecDepth 100000 in
theorem fr_X6_init_132 {Γ : Ga} {d : Nat} {κ : Kp} {Q : Option Value → Kp → Ip → Prop} {X : Cx} {I : Ip} {m e : Nat} (hM : Mx Γ (d + 2) mX6_init Q X) (hMo : MoK κ m) (hr : I (κ.2.1 m 1) = PB 6) (hq : (∀ J : Ip, J (κ.2.1 m 0) = R0.1 → J (κ.2.1 m 2) = laidS R0.1 → J m 5 = nI 0 → J m 7 = nI 0 → J m 9 = I m 9 → MOut κ m I J → Q none κ J)) : GW Γ mX6_init X 132 [(2, .int (nI 6)), (1, .ref (e)), (0, .ref (m))] [] κ (I) 11 570 := by
  have hX := hM.std
  have hR := hM.room
  obtain ⟨km, mz, ⟨k0, z0⟩, ⟨k1, z1⟩, ⟨k2, z2⟩, -⟩ := id hMo
  have a1 : m ≠ κ.2.1 m 0 := kd_ne km k0 (by decide)
  have a2 : m ≠ κ.2.1 m 1 := kd_ne km k1 (by decide)
  have a3 : m ≠ κ.2.1 m 2 := kd_ne km k2 (by decide)
  have b1 : κ.2.1 m 0 ≠ κ.2.1 m 2 := kd_ne k0 k2 (by decide)
  refine g_aload_n hX dX6_init_132 rfl rfl ?_
  refine g_iconst (v := nI 0) hX dX6_init_133 (by decide) ?_
  refine g_iconst (v := nI 1) hX dX6_init_134 (by decide) ?_
  refine g_callV (md' := mX6_befriends) (ci := 6) (As := [.int _, .int _]) hX hR dX6_init_135 clX6_47 okX6_befriends rfl (by assumption) rfl rfl (Nat.le_of_ble_eq_true rfl) (Nat.le_of_ble_eq_true rfl) ⟨Nat.le_of_ble_eq_true rfl, Nat.le_of_ble_eq_true rfl⟩ ?_
  refine sp_X6_befriends hMo (i := 0) (j := 1) (by decide) (by decide) ?_
  simp only [up_same, up_up, hr]
  change GW _ _ _ 138 _ [] _ _ _ _
  refine g_aload_n hX dX6_init_138 rfl rfl ?_
  refine g_iconst (v := nI 1) hX dX6_init_139 (by decide) ?_
  refine g_iconst (v := nI 4) hX dX6_init_140 (by decide) ?_
  refine g_callV (md' := mX6_befriends) (ci := 6) (As := [.int _, .int _]) hX hR dX6_init_141 clX6_47 okX6_befriends rfl (by assumption) rfl rfl (Nat.le_of_ble_eq_true rfl) (Nat.le_of_ble_eq_true rfl) ⟨Nat.le_of_ble_eq_true rfl, Nat.le_of_ble_eq_true rfl⟩ ?_
  refine sp_X6_befriends hMo (i := 1) (j := 4) (by decide) (by decide) ?_
  simp only [up_same, up_up, hr]
  change GW _ _ _ 144 _ [] _ _ _ _
  refine g_aload_n hX dX6_init_144 rfl rfl ?_
  refine g_iconst (v := nI 0) hX dX6_init_145 (by decide) ?_
  refine g_iconst (v := nI 2) hX dX6_init_146 (by decide) ?_
  refine g_callV (md' := mX6_befriends) (ci := 6) (As := [.int _, .int _]) hX hR dX6_init_147 clX6_47 okX6_befriends rfl (by assumption) rfl rfl (Nat.le_of_ble_eq_true rfl) (Nat.le_of_ble_eq_true rfl) ⟨Nat.le_of_ble_eq_true rfl, Nat.le_of_ble_eq_true rfl⟩ ?_
  refine sp_X6_befriends hMo (i := 0) (j := 2) (by decide) (by decide) ?_
  simp only [up_same, up_up, hr]
  change GW _ _ _ 150 _ [] _ _ _ _
  refine g_aload_n hX dX6_init_150 rfl rfl ?_
  refine g_iconst (v := nI 2) hX dX6_init_151 (by decide) ?_
  refine g_iconst (v := nI 3) hX dX6_init_152 (by decide) ?_
  refine g_callV (md' := mX6_befriends) (ci := 6) (As := [.int _, .int _]) hX hR dX6_init_153 clX6_47 okX6_befriends rfl (by assumption) rfl rfl (Nat.le_of_ble_eq_true rfl) (Nat.le_of_ble_eq_true rfl) ⟨Nat.le_of_ble_eq_true rfl, Nat.le_of_ble_eq_true rfl⟩ ?_
  refine sp_X6_befriends hMo (i := 2) (j := 3) (by decide) (by decide) ?_
  simp only [up_same, up_up, hr]
  change GW _ _ _ 156 _ [] _ _ _ _
  refine g_aload_n hX dX6_init_156 rfl rfl ?_
  refine g_iconst (v := nI 3) hX dX6_init_157 (by decide) ?_
  refine g_iconst (v := nI 4) hX dX6_init_158 (by decide) ?_
  refine g_callV (md' := mX6_befriends) (ci := 6) (As := [.int _, .int _]) hX hR dX6_init_159 clX6_47 okX6_befriends rfl (by assumption) rfl rfl (Nat.le_of_ble_eq_true rfl) (Nat.le_of_ble_eq_true rfl) ⟨Nat.le_of_ble_eq_true rfl, Nat.le_of_ble_eq_true rfl⟩ ?_
  refine sp_X6_befriends hMo (i := 3) (j := 4) (by decide) (by decide) ?_
  simp only [up_same, up_up, hr]
  change GW _ _ _ 162 _ [] _ _ _ _
  refine g_aload_n hX dX6_init_162 rfl rfl ?_
  refine g_iconst (v := nI 4) hX dX6_init_163 (by decide) ?_
  refine g_iconst (v := nI 5) hX dX6_init_164 (by decide) ?_
  refine g_callV (md' := mX6_befriends) (ci := 6) (As := [.int _, .int _]) hX hR dX6_init_165 clX6_47 okX6_befriends rfl (by assumption) rfl rfl (Nat.le_of_ble_eq_true rfl) (Nat.le_of_ble_eq_true rfl) ⟨Nat.le_of_ble_eq_true rfl, Nat.le_of_ble_eq_true rfl⟩ ?_
  refine sp_X6_befriends hMo (i := 4) (j := 5) (by decide) (by decide) ?_
  simp only [up_same, up_up, hr]
  change GW _ _ _ 168 _ [] _ _ _ _
  refine g_aload_n hX dX6_init_168 rfl rfl ?_
  refine g_iconst (v := nI 0) hX dX6_init_169 (by decide) ?_
  refine g_iconst (v := nI 5) hX dX6_init_170 (by decide) ?_
  refine g_callV (md' := mX6_befriends) (ci := 6) (As := [.int _, .int _]) hX hR dX6_init_171 clX6_47 okX6_befriends rfl (by assumption) rfl rfl (Nat.le_of_ble_eq_true rfl) (Nat.le_of_ble_eq_true rfl) ⟨Nat.le_of_ble_eq_true rfl, Nat.le_of_ble_eq_true rfl⟩ ?_
  refine sp_X6_befriends hMo (i := 0) (j := 5) (by decide) (by decide) ?_
  simp only [up_same, up_up, hr]
  change GW _ _ _ _ _ _ _ (va_up I (κ.2.1 m 1) FB) _ _
  change GW _ _ _ 174 _ [] _ _ _ _
  refine g_aload_n hX dX6_init_174 rfl rfl ?_
  refine g_iconst (v := nI 3) hX dX6_init_175 (by decide) ?_
  refine g_bipush (v := nI 6) hX dX6_init_176 (by decide) ?_
  refine g_iconst (v := nI 2) hX dX6_init_178 (by decide) ?_
  refine g_iconst (v := nI 1) hX dX6_init_179 (by decide) ?_
  refine g_callV (md' := mX6_addsTale) (ci := 6) (As := [.int _, .int _, .int _, .int _]) hX hR dX6_init_180 clX6_51 okX6_addsTale rfl (by assumption) rfl rfl (Nat.le_of_ble_eq_true rfl) (Nat.le_of_ble_eq_true rfl) ⟨Nat.le_of_ble_eq_true rfl, Nat.le_of_ble_eq_true rfl⟩ ?_
  refine sp_X6_addsTale hMo (p := 0) (by rw [up_same]; exact FB1) (by decide) ?_
  simp only [up_same, up_up]
  change GW _ _ _ 183 _ [] _ _ _ _
  refine g_aload_n hX dX6_init_183 rfl rfl ?_
  refine g_iconst (v := nI 5) hX dX6_init_184 (by decide) ?_
  refine g_bipush (v := nI 9) hX dX6_init_185 (by decide) ?_
  refine g_iconst (v := nI 3) hX dX6_init_187 (by decide) ?_
  refine g_iconst (v := nI 3) hX dX6_init_188 (by decide) ?_
  refine g_callV (md' := mX6_addsTale) (ci := 6) (As := [.int _, .int _, .int _, .int _]) hX hR dX6_init_189 clX6_51 okX6_addsTale rfl (by assumption) rfl rfl (Nat.le_of_ble_eq_true rfl) (Nat.le_of_ble_eq_true rfl) ⟨Nat.le_of_ble_eq_true rfl, Nat.le_of_ble_eq_true rfl⟩ ?_
  refine sp_X6_addsTale hMo (p := 1) (by rw [up_same]; exact adT1) (by decide) ?_
  simp only [up_same, up_up]
  change GW _ _ _ 192 _ [] _ _ _ _
  refine g_aload_n hX dX6_init_192 rfl rfl ?_
  refine g_iconst (v := nI 0) hX dX6_init_193 (by decide) ?_
  refine g_iconst (v := nI 4) hX dX6_init_194 (by decide) ?_
  refine g_iconst (v := nI 1) hX dX6_init_195 (by decide) ?_
  refine g_bipush (v := nI 16) hX dX6_init_196 (by decide) ?_
  refine g_callV (md' := mX6_addsTale) (ci := 6) (As := [.int _, .int _, .int _, .int _]) hX hR dX6_init_198 clX6_51 okX6_addsTale rfl (by assumption) rfl rfl (Nat.le_of_ble_eq_true rfl) (Nat.le_of_ble_eq_true rfl) ⟨Nat.le_of_ble_eq_true rfl, Nat.le_of_ble_eq_true rfl⟩ ?_
  refine sp_X6_addsTale hMo (p := 2) (by rw [up_same]; exact adT1) (by decide) ?_
  simp only [up_same, up_up]
  change GW _ _ _ 201 _ [] _ _ _ _
  refine g_aload_n hX dX6_init_201 rfl rfl ?_
  refine g_iconst (v := nI 2) hX dX6_init_202 (by decide) ?_
  refine g_bipush (v := nI 12) hX dX6_init_203 (by decide) ?_
  refine g_iconst (v := nI 4) hX dX6_init_205 (by decide) ?_
  refine g_iconst (v := nI 2) hX dX6_init_206 (by decide) ?_
  refine g_callV (md' := mX6_addsTale) (ci := 6) (As := [.int _, .int _, .int _, .int _]) hX hR dX6_init_207 clX6_51 okX6_addsTale rfl (by assumption) rfl rfl (Nat.le_of_ble_eq_true rfl) (Nat.le_of_ble_eq_true rfl) ⟨Nat.le_of_ble_eq_true rfl, Nat.le_of_ble_eq_true rfl⟩ ?_
  refine sp_X6_addsTale hMo (p := 3) (by rw [up_same]; exact adT1) (by decide) ?_
  simp only [up_same, up_up]
  change GW _ _ _ 210 _ [] _ _ _ _
  refine g_aload_n hX dX6_init_210 rfl rfl ?_
  refine g_iconst (v := nI 1) hX dX6_init_211 (by decide) ?_
  refine g_iconst (v := nI 3) hX dX6_init_212 (by decide) ?_
  refine g_iconst (v := nI 2) hX dX6_init_213 (by decide) ?_
  refine g_bipush (v := nI 40) hX dX6_init_214 (by decide) ?_
  refine g_callV (md' := mX6_addsTale) (ci := 6) (As := [.int _, .int _, .int _, .int _]) hX hR dX6_init_216 clX6_51 okX6_addsTale rfl (by assumption) rfl rfl (Nat.le_of_ble_eq_true rfl) (Nat.le_of_ble_eq_true rfl) ⟨Nat.le_of_ble_eq_true rfl, Nat.le_of_ble_eq_true rfl⟩ ?_
  refine sp_X6_addsTale hMo (p := 4) (by rw [up_same]; exact adT1) (by decide) ?_
  simp only [up_same, up_up]
  change GW _ _ _ 219 _ [] _ _ _ _
  refine g_aload_n hX dX6_init_219 rfl rfl ?_
  refine g_iconst (v := nI 4) hX dX6_init_220 (by decide) ?_
  refine g_bipush (v := nI 7) hX dX6_init_221 (by decide) ?_
  refine g_iconst (v := nI 1) hX dX6_init_223 (by decide) ?_
  refine g_iconst (v := nI 1) hX dX6_init_224 (by decide) ?_
  refine g_callV (md' := mX6_addsTale) (ci := 6) (As := [.int _, .int _, .int _, .int _]) hX hR dX6_init_225 clX6_51 okX6_addsTale rfl (by assumption) rfl rfl (Nat.le_of_ble_eq_true rfl) (Nat.le_of_ble_eq_true rfl) ⟨Nat.le_of_ble_eq_true rfl, Nat.le_of_ble_eq_true rfl⟩ ?_
  refine sp_X6_addsTale hMo (p := 5) (by rw [up_same]; exact adT1) (by decide) ?_
  simp only [up_same, up_up]
  change GW _ _ _ 228 _ [] _ _ _ _
  refine g_aload_n hX dX6_init_228 rfl rfl ?_
  refine g_iconst (v := nI 0) hX dX6_init_229 (by decide) ?_
  refine g_bipush (v := nI 8) hX dX6_init_230 (by decide) ?_
  refine g_iconst (v := nI 3) hX dX6_init_232 (by decide) ?_
  refine g_bipush (v := nI 8) hX dX6_init_233 (by decide) ?_
  refine g_callV (md' := mX6_addsTale) (ci := 6) (As := [.int _, .int _, .int _, .int _]) hX hR dX6_init_235 clX6_51 okX6_addsTale rfl (by assumption) rfl rfl (Nat.le_of_ble_eq_true rfl) (Nat.le_of_ble_eq_true rfl) ⟨Nat.le_of_ble_eq_true rfl, Nat.le_of_ble_eq_true rfl⟩ ?_
  refine sp_X6_addsTale hMo (p := 6) (by rw [up_same]; exact adT1) (by decide) ?_
  simp only [up_same, up_up]
  change GW _ _ _ _ _ _ _ (va_up I (κ.2.1 m 1) RB) _ _
  change GW _ _ _ 238 _ [] _ _ _ _
  refine g_aload_n hX dX6_init_238 rfl rfl ?_
  refine g_ext (f := R0.1) k1 (fun k hk => by rw [up_same]; exact RB_R0 k hk) ?_
  simp only [up_up]
  refine g_callV (md' := mX6_begins) (ci := 6) (As := []) hX hR dX6_init_239 clX6_55 okX6_begins rfl (by assumption) rfl rfl (Nat.le_of_ble_eq_true rfl) (Nat.le_of_ble_eq_true rfl) ⟨Nat.le_of_ble_eq_true rfl, Nat.le_of_ble_eq_true rfl⟩ ?_
  refine sp_X6_begins hMo ?_
  change GW _ _ _ 242 _ [] _ _ _ _
  refine g_vret hM dX6_init_242 rfl ⟨Nat.le_of_ble_eq_true rfl, Nat.le_of_ble_eq_true rfl⟩ ?_
  refine hq _ ?_ ?_ ?_ ?_ ?_ ?_
  · rw [up_ne _ _ (Ne.symm a1), up_ne _ _ b1, up_same, up_same]
  · rw [up_ne _ _ (Ne.symm a3), up_same, up_same]
  · rw [up_same, up_ne _ _ (by decide), up_same]
  · rw [up_same, up_same]
  · rw [up_same, up_ne _ _ (by decide), up_ne _ _ (by decide)]
    first | rw [up_ne _ _ a3, up_ne _ _ a1, up_ne _ _ a2] | rw [up_ne _ _ a2]
  · exact fun a g0 g1 g2 g3 _ _ _ _ _ _ _ => by rw [up_ne _ _ g0, up_ne _ _ g3, up_ne _ _ g1, up_ne _ _ g2]
