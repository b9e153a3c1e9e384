abbrev pgCr (n : Nat) (σ : pgSt) : Prop := ∀ j, j < n → σ 3 j = -1 ∨ ∃ c, c < 10 ∧ σ 3 j = nI c
theorem pgCx {c : Nat} {v : Int32} (hc : c < 10) (h : v = nI c) : v ≠ -1 ∧ ix v = c := by
  subst h
  exact ⟨pg_nm1 c hc, nI_clamp (by omega)⟩
section PGS
variable {ad : Nat → Nat} {σ : pgSt} {j c : Nat} {v : Int32}
theorem pgDs2 : (pgDv ad σ j).set 2 (.int v) = pgDv ad (pgU σ 2 j v) j := by simp [pgU]
theorem pgDs3 : (pgDv ad σ j).set 3 (.int v) = pgDv ad (pgU σ 14 j v) j := by simp [pgU]
theorem pgDs5 : (pgDv ad σ j).set 5 (.int v) = pgDv ad (pgU σ 6 j v) j := by simp [pgU]
theorem pgDs6 : (pgDv ad σ j).set 6 (.int v) = pgDv ad (pgU σ 4 j v) j := by simp [pgU]
theorem pgDs7 : (pgDv ad σ j).set 7 (.int v) = pgDv ad (pgU σ 7 j v) j := by simp [pgU]
theorem pgDs8 : (pgDv ad σ j).set 8 (.int v) = pgDv ad (pgU σ 8 j v) j := by simp [pgU]
theorem pgDs9 : (pgDv ad σ j).set 9 (.int v) = pgDv ad (pgU σ 5 j v) j := by simp [pgU]
theorem pgDs10 : (pgDv ad σ j).set 10 (.int v) = pgDv ad (pgU σ 9 j v) j := by simp [pgU]
theorem pgDs4n : (pgDv ad σ j).set 4 .null = pgDv ad (pgU σ 3 j (-1)) j := by simp [pgU, pgCv]
theorem pgDs4r (hc : c < 10) (h : v = nI c) : (pgDv ad σ j).set 4 (.ref (ad (3 + c))) = pgDv ad (pgU σ 3 j v) j := by
  have e := pgCv_ref (ad := ad) hc h
  simp [pgU, e]
theorem pgKs1 : (pgKv σ c).set 1 (.int v) = pgKv (pgU σ 10 c v) c := by simp [pgU]
theorem pgKs2 : (pgKv σ c).set 2 (.int v) = pgKv (pgU σ 11 c v) c := by simp [pgU]
theorem pgKs3 : (pgKv σ c).set 3 (.int v) = pgKv (pgU σ 12 c v) c := by simp [pgU]
theorem pgXs2 : (pgXv ad σ).set 2 (.int v) = pgXv ad (pgU σ 13 0 v) := by simp [pgU]
theorem pgXs3 : (pgXv ad σ).set 3 (.int v) = pgXv ad (pgU σ 13 1 v) := by simp [pgU]
theorem pgXs4 : (pgXv ad σ).set 4 (.int v) = pgXv ad (pgU σ 13 2 v) := by simp [pgU]
theorem pgXs5 : (pgXv ad σ).set 5 (.int v) = pgXv ad (pgU σ 13 3 v) := by simp [pgU]
theorem pgXs6 : (pgXv ad σ).set 6 (.int v) = pgXv ad (pgU σ 13 4 v) := by simp [pgU]
end PGS
theorem hdX0_init : yX0_init.cls ≠ "java/lang/invoke/MethodHandle" ∧ yX0_init.cls ≠ "java/lang/invoke/VarHandle" ∧ (parseMethodDescriptor yX0_init.desc).map (fun d => d.parameters.length) = some 1 := by decide +kernel
theorem hdX0_isSealed : yX0_isSealed.cls = RX0 ∧ yX0_isSealed.cls ≠ "java/lang/invoke/MethodHandle" ∧ yX0_isSealed.cls ≠ "java/lang/invoke/VarHandle" ∧ (parseMethodDescriptor yX0_isSealed.desc).map (fun d => d.parameters.length) = some 0 := by decide +kernel
theorem hdX1_init : yX1_init.cls ≠ "java/lang/invoke/MethodHandle" ∧ yX1_init.cls ≠ "java/lang/invoke/VarHandle" ∧ (parseMethodDescriptor yX1_init.desc).map (fun d => d.parameters.length) = some 2 := by decide +kernel
theorem hdX1_crateNumber : yX1_crateNumber.cls = RX1 ∧ yX1_crateNumber.cls ≠ "java/lang/invoke/MethodHandle" ∧ yX1_crateNumber.cls ≠ "java/lang/invoke/VarHandle" ∧ (parseMethodDescriptor yX1_crateNumber.desc).map (fun d => d.parameters.length) = some 0 := by decide +kernel
theorem hdX1_isSealedIn : yX1_isSealedIn.cls = RX1 ∧ yX1_isSealedIn.cls ≠ "java/lang/invoke/MethodHandle" ∧ yX1_isSealedIn.cls ≠ "java/lang/invoke/VarHandle" ∧ (parseMethodDescriptor yX1_isSealedIn.desc).map (fun d => d.parameters.length) = some 0 := by decide +kernel
theorem hdX1_isFinished : yX1_isFinished.cls = RX1 ∧ yX1_isFinished.cls ≠ "java/lang/invoke/MethodHandle" ∧ yX1_isFinished.cls ≠ "java/lang/invoke/VarHandle" ∧ (parseMethodDescriptor yX1_isFinished.desc).map (fun d => d.parameters.length) = some 0 := by decide +kernel
theorem hdX1_awaitsCertificate : yX1_awaitsCertificate.cls = RX1 ∧ yX1_awaitsCertificate.cls ≠ "java/lang/invoke/MethodHandle" ∧ yX1_awaitsCertificate.cls ≠ "java/lang/invoke/VarHandle" ∧ (parseMethodDescriptor yX1_awaitsCertificate.desc).map (fun d => d.parameters.length) = some 0 := by decide +kernel
theorem hdX2_init : yX2_init.cls ≠ "java/lang/invoke/MethodHandle" ∧ yX2_init.cls ≠ "java/lang/invoke/VarHandle" ∧ (parseMethodDescriptor yX2_init.desc).map (fun d => d.parameters.length) = some 0 := by decide +kernel
theorem hdX2_bring : yX2_bring.cls = RX2 ∧ yX2_bring.cls ≠ "java/lang/invoke/MethodHandle" ∧ yX2_bring.cls ≠ "java/lang/invoke/VarHandle" ∧ (parseMethodDescriptor yX2_bring.desc).map (fun d => d.parameters.length) = some 3 := by decide +kernel
theorem hdX2_offer : yX2_offer.cls = RX2 ∧ yX2_offer.cls ≠ "java/lang/invoke/MethodHandle" ∧ yX2_offer.cls ≠ "java/lang/invoke/VarHandle" ∧ (parseMethodDescriptor yX2_offer.desc).map (fun d => d.parameters.length) = some 2 := by decide +kernel
theorem hdX2_answer : yX2_answer.cls = RX2 ∧ yX2_answer.cls ≠ "java/lang/invoke/MethodHandle" ∧ yX2_answer.cls ≠ "java/lang/invoke/VarHandle" ∧ (parseMethodDescriptor yX2_answer.desc).map (fun d => d.parameters.length) = some 2 := by decide +kernel
theorem hdX2_pack : yX2_pack.cls = RX2 ∧ yX2_pack.cls ≠ "java/lang/invoke/MethodHandle" ∧ yX2_pack.cls ≠ "java/lang/invoke/VarHandle" ∧ (parseMethodDescriptor yX2_pack.desc).map (fun d => d.parameters.length) = some 2 := by decide +kernel
theorem hdX2_unpack : yX2_unpack.cls = RX2 ∧ yX2_unpack.cls ≠ "java/lang/invoke/MethodHandle" ∧ yX2_unpack.cls ≠ "java/lang/invoke/VarHandle" ∧ (parseMethodDescriptor yX2_unpack.desc).map (fun d => d.parameters.length) = some 1 := by decide +kernel
theorem hdX2_seal : yX2_seal.cls = RX2 ∧ yX2_seal.cls ≠ "java/lang/invoke/MethodHandle" ∧ yX2_seal.cls ≠ "java/lang/invoke/VarHandle" ∧ (parseMethodDescriptor yX2_seal.desc).map (fun d => d.parameters.length) = some 1 := by decide +kernel
theorem hdX2_open : yX2_open.cls = RX2 ∧ yX2_open.cls ≠ "java/lang/invoke/MethodHandle" ∧ yX2_open.cls ≠ "java/lang/invoke/VarHandle" ∧ (parseMethodDescriptor yX2_open.desc).map (fun d => d.parameters.length) = some 2 := by decide +kernel
theorem hdX2_carry : yX2_carry.cls = RX2 ∧ yX2_carry.cls ≠ "java/lang/invoke/MethodHandle" ∧ yX2_carry.cls ≠ "java/lang/invoke/VarHandle" ∧ (parseMethodDescriptor yX2_carry.desc).map (fun d => d.parameters.length) = some 2 := by decide +kernel
theorem hdX2_wipe : yX2_wipe.cls = RX2 ∧ yX2_wipe.cls ≠ "java/lang/invoke/MethodHandle" ∧ yX2_wipe.cls ≠ "java/lang/invoke/VarHandle" ∧ (parseMethodDescriptor yX2_wipe.desc).map (fun d => d.parameters.length) = some 3 := by decide +kernel
theorem hdX2_smash : yX2_smash.cls = RX2 ∧ yX2_smash.cls ≠ "java/lang/invoke/MethodHandle" ∧ yX2_smash.cls ≠ "java/lang/invoke/VarHandle" ∧ (parseMethodDescriptor yX2_smash.desc).map (fun d => d.parameters.length) = some 2 := by decide +kernel
theorem hdX2_check : yX2_check.cls = RX2 ∧ yX2_check.cls ≠ "java/lang/invoke/MethodHandle" ∧ yX2_check.cls ≠ "java/lang/invoke/VarHandle" ∧ (parseMethodDescriptor yX2_check.desc).map (fun d => d.parameters.length) = some 3 := by decide +kernel
theorem hdX2_lose : yX2_lose.cls = RX2 ∧ yX2_lose.cls ≠ "java/lang/invoke/MethodHandle" ∧ yX2_lose.cls ≠ "java/lang/invoke/VarHandle" ∧ (parseMethodDescriptor yX2_lose.desc).map (fun d => d.parameters.length) = some 1 := by decide +kernel
theorem hdX2_find : yX2_find.cls = RX2 ∧ yX2_find.cls ≠ "java/lang/invoke/MethodHandle" ∧ yX2_find.cls ≠ "java/lang/invoke/VarHandle" ∧ (parseMethodDescriptor yX2_find.desc).map (fun d => d.parameters.length) = some 1 := by decide +kernel
theorem hdX2_certify : yX2_certify.cls = RX2 ∧ yX2_certify.cls ≠ "java/lang/invoke/MethodHandle" ∧ yX2_certify.cls ≠ "java/lang/invoke/VarHandle" ∧ (parseMethodDescriptor yX2_certify.desc).map (fun d => d.parameters.length) = some 1 := by decide +kernel
theorem hdX2_disks : yX2_disks.cls = RX2 ∧ yX2_disks.cls ≠ "java/lang/invoke/MethodHandle" ∧ yX2_disks.cls ≠ "java/lang/invoke/VarHandle" ∧ (parseMethodDescriptor yX2_disks.desc).map (fun d => d.parameters.length) = some 0 := by decide +kernel
theorem hdX2_keeperOf : yX2_keeperOf.cls = RX2 ∧ yX2_keeperOf.cls ≠ "java/lang/invoke/MethodHandle" ∧ yX2_keeperOf.cls ≠ "java/lang/invoke/VarHandle" ∧ (parseMethodDescriptor yX2_keeperOf.desc).map (fun d => d.parameters.length) = some 1 := by decide +kernel
theorem hdX2_keeperByLog : yX2_keeperByLog.cls = RX2 ∧ yX2_keeperByLog.cls ≠ "java/lang/invoke/MethodHandle" ∧ yX2_keeperByLog.cls ≠ "java/lang/invoke/VarHandle" ∧ (parseMethodDescriptor yX2_keeperByLog.desc).map (fun d => d.parameters.length) = some 1 := by decide +kernel
theorem hdX2_crateOf : yX2_crateOf.cls = RX2 ∧ yX2_crateOf.cls ≠ "java/lang/invoke/MethodHandle" ∧ yX2_crateOf.cls ≠ "java/lang/invoke/VarHandle" ∧ (parseMethodDescriptor yX2_crateOf.desc).map (fun d => d.parameters.length) = some 1 := by decide +kernel
theorem hdX2_stateOf : yX2_stateOf.cls = RX2 ∧ yX2_stateOf.cls ≠ "java/lang/invoke/MethodHandle" ∧ yX2_stateOf.cls ≠ "java/lang/invoke/VarHandle" ∧ (parseMethodDescriptor yX2_stateOf.desc).map (fun d => d.parameters.length) = some 1 := by decide +kernel
theorem hdX2_isDone : yX2_isDone.cls = RX2 ∧ yX2_isDone.cls ≠ "java/lang/invoke/MethodHandle" ∧ yX2_isDone.cls ≠ "java/lang/invoke/VarHandle" ∧ (parseMethodDescriptor yX2_isDone.desc).map (fun d => d.parameters.length) = some 1 := by decide +kernel
theorem hdX2_offeredTo : yX2_offeredTo.cls = RX2 ∧ yX2_offeredTo.cls ≠ "java/lang/invoke/MethodHandle" ∧ yX2_offeredTo.cls ≠ "java/lang/invoke/VarHandle" ∧ (parseMethodDescriptor yX2_offeredTo.desc).map (fun d => d.parameters.length) = some 1 := by decide +kernel
theorem hdX2_certificateOf : yX2_certificateOf.cls = RX2 ∧ yX2_certificateOf.cls ≠ "java/lang/invoke/MethodHandle" ∧ yX2_certificateOf.cls ≠ "java/lang/invoke/VarHandle" ∧ (parseMethodDescriptor yX2_certificateOf.desc).map (fun d => d.parameters.length) = some 1 := by decide +kernel
theorem hdX2_crateKeeper : yX2_crateKeeper.cls = RX2 ∧ yX2_crateKeeper.cls ≠ "java/lang/invoke/MethodHandle" ∧ yX2_crateKeeper.cls ≠ "java/lang/invoke/VarHandle" ∧ (parseMethodDescriptor yX2_crateKeeper.desc).map (fun d => d.parameters.length) = some 1 := by decide +kernel
theorem hdX2_sealOf : yX2_sealOf.cls = RX2 ∧ yX2_sealOf.cls ≠ "java/lang/invoke/MethodHandle" ∧ yX2_sealOf.cls ≠ "java/lang/invoke/VarHandle" ∧ (parseMethodDescriptor yX2_sealOf.desc).map (fun d => d.parameters.length) = some 1 := by decide +kernel
theorem hdX2_has : yX2_has.cls = RX2 ∧ yX2_has.cls ≠ "java/lang/invoke/MethodHandle" ∧ yX2_has.cls ≠ "java/lang/invoke/VarHandle" ∧ (parseMethodDescriptor yX2_has.desc).map (fun d => d.parameters.length) = some 1 := by decide +kernel
theorem hdX2_missing : yX2_missing.cls = RX2 ∧ yX2_missing.cls ≠ "java/lang/invoke/MethodHandle" ∧ yX2_missing.cls ≠ "java/lang/invoke/VarHandle" ∧ (parseMethodDescriptor yX2_missing.desc).map (fun d => d.parameters.length) = some 0 := by decide +kernel
theorem hdX2_oddCounts : yX2_oddCounts.cls = RX2 ∧ yX2_oddCounts.cls ≠ "java/lang/invoke/MethodHandle" ∧ yX2_oddCounts.cls ≠ "java/lang/invoke/VarHandle" ∧ (parseMethodDescriptor yX2_oddCounts.desc).map (fun d => d.parameters.length) = some 0 := by decide +kernel
theorem hdX2_logged : yX2_logged.cls = RX2 ∧ yX2_logged.cls ≠ "java/lang/invoke/MethodHandle" ∧ yX2_logged.cls ≠ "java/lang/invoke/VarHandle" ∧ (parseMethodDescriptor yX2_logged.desc).map (fun d => d.parameters.length) = some 0 := by decide +kernel
theorem hdX2_certificates : yX2_certificates.cls = RX2 ∧ yX2_certificates.cls ≠ "java/lang/invoke/MethodHandle" ∧ yX2_certificates.cls ≠ "java/lang/invoke/VarHandle" ∧ (parseMethodDescriptor yX2_certificates.desc).map (fun d => d.parameters.length) = some 0 := by decide +kernel
theorem hdX2_findDisk : yX2_findDisk.cls = RX2 ∧ yX2_findDisk.cls ≠ "java/lang/invoke/MethodHandle" ∧ yX2_findDisk.cls ≠ "java/lang/invoke/VarHandle" ∧ (parseMethodDescriptor yX2_findDisk.desc).map (fun d => d.parameters.length) = some 1 := by decide +kernel
theorem hdX2_findCrate : yX2_findCrate.cls = RX2 ∧ yX2_findCrate.cls ≠ "java/lang/invoke/MethodHandle" ∧ yX2_findCrate.cls ≠ "java/lang/invoke/VarHandle" ∧ (parseMethodDescriptor yX2_findCrate.desc).map (fun d => d.parameters.length) = some 1 := by decide +kernel
theorem hdX2_countDisksIn : yX2_countDisksIn.cls = RX2 ∧ yX2_countDisksIn.cls ≠ "java/lang/invoke/MethodHandle" ∧ yX2_countDisksIn.cls ≠ "java/lang/invoke/VarHandle" ∧ (parseMethodDescriptor yX2_countDisksIn.desc).map (fun d => d.parameters.length) = some 1 := by decide +kernel
theorem hdX2_handOverDisksIn : yX2_handOverDisksIn.cls = RX2 ∧ yX2_handOverDisksIn.cls ≠ "java/lang/invoke/MethodHandle" ∧ yX2_handOverDisksIn.cls ≠ "java/lang/invoke/VarHandle" ∧ (parseMethodDescriptor yX2_handOverDisksIn.desc).map (fun d => d.parameters.length) = some 1 := by decide +kernel
theorem hdX2_handOver : yX2_handOver.cls = RX2 ∧ yX2_handOver.cls ≠ "java/lang/invoke/MethodHandle" ∧ yX2_handOver.cls ≠ "java/lang/invoke/VarHandle" ∧ (parseMethodDescriptor yX2_handOver.desc).map (fun d => d.parameters.length) = some 2 := by decide +kernel
theorem hdX2_requireKeeper : yX2_requireKeeper.cls ≠ "java/lang/invoke/MethodHandle" ∧ yX2_requireKeeper.cls ≠ "java/lang/invoke/VarHandle" ∧ (parseMethodDescriptor yX2_requireKeeper.desc).map (fun d => d.parameters.length) = some 1 := by decide +kernel
theorem hdX2_requireLoose : yX2_requireLoose.cls ≠ "java/lang/invoke/MethodHandle" ∧ yX2_requireLoose.cls ≠ "java/lang/invoke/VarHandle" ∧ (parseMethodDescriptor yX2_requireLoose.desc).map (fun d => d.parameters.length) = some 1 := by decide +kernel
theorem hdX2_requireWithinReach : yX2_requireWithinReach.cls ≠ "java/lang/invoke/MethodHandle" ∧ yX2_requireWithinReach.cls ≠ "java/lang/invoke/VarHandle" ∧ (parseMethodDescriptor yX2_requireWithinReach.desc).map (fun d => d.parameters.length) = some 1 := by decide +kernel
theorem hdX2_requireWitnessIsNotKeeper : yX2_requireWitnessIsNotKeeper.cls ≠ "java/lang/invoke/MethodHandle" ∧ yX2_requireWitnessIsNotKeeper.cls ≠ "java/lang/invoke/VarHandle" ∧ (parseMethodDescriptor yX2_requireWitnessIsNotKeeper.desc).map (fun d => d.parameters.length) = some 2 := by decide +kernel
theorem hdL_draw : yL_draw.cls ≠ "java/lang/invoke/MethodHandle" ∧ yL_draw.cls ≠ "java/lang/invoke/VarHandle" ∧ (parseMethodDescriptor yL_draw.desc).map (fun d => d.parameters.length) = some 3 := by decide +kernel
theorem hdL_asks : yL_asks.cls ≠ "java/lang/invoke/MethodHandle" ∧ yL_asks.cls ≠ "java/lang/invoke/VarHandle" ∧ (parseMethodDescriptor yL_asks.desc).map (fun d => d.parameters.length) = some 5 := by decide +kernel
theorem hdL_disk : yL_disk.cls ≠ "java/lang/invoke/MethodHandle" ∧ yL_disk.cls ≠ "java/lang/invoke/VarHandle" ∧ (parseMethodDescriptor yL_disk.desc).map (fun d => d.parameters.length) = some 2 := by decide +kernel
theorem hdL_all : yL_all.cls ≠ "java/lang/invoke/MethodHandle" ∧ yL_all.cls ≠ "java/lang/invoke/VarHandle" ∧ (parseMethodDescriptor yL_all.desc).map (fun d => d.parameters.length) = some 3 := by decide +kernel
theorem hdL_areSame : yL_areSame.cls ≠ "java/lang/invoke/MethodHandle" ∧ yL_areSame.cls ≠ "java/lang/invoke/VarHandle" ∧ (parseMethodDescriptor yL_areSame.desc).map (fun d => d.parameters.length) = some 4 := by decide +kernel
theorem hdL_isMissing : yL_isMissing.cls ≠ "java/lang/invoke/MethodHandle" ∧ yL_isMissing.cls ≠ "java/lang/invoke/VarHandle" ∧ (parseMethodDescriptor yL_isMissing.desc).map (fun d => d.parameters.length) = some 2 := by decide +kernel
theorem hdL_isShut : yL_isShut.cls ≠ "java/lang/invoke/MethodHandle" ∧ yL_isShut.cls ≠ "java/lang/invoke/VarHandle" ∧ (parseMethodDescriptor yL_isShut.desc).map (fun d => d.parameters.length) = some 2 := by decide +kernel
theorem hdL_isFree : yL_isFree.cls ≠ "java/lang/invoke/MethodHandle" ∧ yL_isFree.cls ≠ "java/lang/invoke/VarHandle" ∧ (parseMethodDescriptor yL_isFree.desc).map (fun d => d.parameters.length) = some 3 := by decide +kernel
theorem hdL_countIn : yL_countIn.cls ≠ "java/lang/invoke/MethodHandle" ∧ yL_countIn.cls ≠ "java/lang/invoke/VarHandle" ∧ (parseMethodDescriptor yL_countIn.desc).map (fun d => d.parameters.length) = some 3 := by decide +kernel
theorem hdL_isBook : yL_isBook.cls ≠ "java/lang/invoke/MethodHandle" ∧ yL_isBook.cls ≠ "java/lang/invoke/VarHandle" ∧ (parseMethodDescriptor yL_isBook.desc).map (fun d => d.parameters.length) = some 3 := by decide +kernel
theorem hdL_hands : yL_hands.cls ≠ "java/lang/invoke/MethodHandle" ∧ yL_hands.cls ≠ "java/lang/invoke/VarHandle" ∧ (parseMethodDescriptor yL_hands.desc).map (fun d => d.parameters.length) = some 7 := by decide +kernel
theorem hdL_packs : yL_packs.cls ≠ "java/lang/invoke/MethodHandle" ∧ yL_packs.cls ≠ "java/lang/invoke/VarHandle" ∧ (parseMethodDescriptor yL_packs.desc).map (fun d => d.parameters.length) = some 7 := by decide +kernel
theorem hdL_works : yL_works.cls ≠ "java/lang/invoke/MethodHandle" ∧ yL_works.cls ≠ "java/lang/invoke/VarHandle" ∧ (parseMethodDescriptor yL_works.desc).map (fun d => d.parameters.length) = some 10 := by decide +kernel
theorem hdL_loses : yL_loses.cls ≠ "java/lang/invoke/MethodHandle" ∧ yL_loses.cls ≠ "java/lang/invoke/VarHandle" ∧ (parseMethodDescriptor yL_loses.desc).map (fun d => d.parameters.length) = some 6 := by decide +kernel
theorem hdL_crates : yL_crates.cls ≠ "java/lang/invoke/MethodHandle" ∧ yL_crates.cls ≠ "java/lang/invoke/VarHandle" ∧ (parseMethodDescriptor yL_crates.desc).map (fun d => d.parameters.length) = some 7 := by decide +kernel
theorem hdL_certifies : yL_certifies.cls ≠ "java/lang/invoke/MethodHandle" ∧ yL_certifies.cls ≠ "java/lang/invoke/VarHandle" ∧ (parseMethodDescriptor yL_certifies.desc).map (fun d => d.parameters.length) = some 5 := by decide +kernel
theorem hdL_step : yL_step.cls ≠ "java/lang/invoke/MethodHandle" ∧ yL_step.cls ≠ "java/lang/invoke/VarHandle" ∧ (parseMethodDescriptor yL_step.desc).map (fun d => d.parameters.length) = some 10 := by decide +kernel
theorem hdL_book : yL_book.cls ≠ "java/lang/invoke/MethodHandle" ∧ yL_book.cls ≠ "java/lang/invoke/VarHandle" ∧ (parseMethodDescriptor yL_book.desc).map (fun d => d.parameters.length) = some 2 := by decide +kernel
theorem hdL_law : yL_law.cls ≠ "java/lang/invoke/MethodHandle" ∧ yL_law.cls ≠ "java/lang/invoke/VarHandle" ∧ (parseMethodDescriptor yL_law.desc).map (fun d => d.parameters.length) = some 1 := by decide +kernel
