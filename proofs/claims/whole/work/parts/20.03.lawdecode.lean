theorem dL_386 : decode code 386 = .ok (.iconst 0, 1) := by decide +kernel
theorem dL_387 : decode code 387 = .ok (.ireturn, 1) := by decide +kernel
theorem dL_388 : decode code 388 = .ok (.aload_n 1, 1) := by decide +kernel
theorem dL_389 : decode code 389 = .ok (.invokevirtual 58, 3) := by decide +kernel
theorem dL_392 : decode code 392 = .ok (.aload_n 2, 1) := by decide +kernel
theorem dL_393 : decode code 393 = .ok (.invokevirtual 61, 3) := by decide +kernel
theorem dL_396 : decode code 396 = .ok (.if_icmp .eq 253, 3) := by decide +kernel
theorem dL_399 : decode code 399 = .ok (.iconst 0, 1) := by decide +kernel
theorem dL_400 : decode code 400 = .ok (.ireturn, 1) := by decide +kernel
theorem dL_401 : decode code 401 = .ok (.aload_n 1, 1) := by decide +kernel
theorem dL_402 : decode code 402 = .ok (.aload_n 0, 1) := by decide +kernel
theorem dL_403 : decode code 403 = .ok (.iload_n 3, 1) := by decide +kernel
theorem dL_404 : decode code 404 = .ok (.iconst 1, 1) := by decide +kernel
theorem dL_405 : decode code 405 = .ok (.iadd, 1) := by decide +kernel
theorem dL_406 : decode code 406 = .ok (.iaload, 1) := by decide +kernel
theorem dL_407 : decode code 407 = .ok (.aload_n 0, 1) := by decide +kernel
theorem dL_408 : decode code 408 = .ok (.iload_n 3, 1) := by decide +kernel
theorem dL_409 : decode code 409 = .ok (.iconst 2, 1) := by decide +kernel
theorem dL_410 : decode code 410 = .ok (.iadd, 1) := by decide +kernel
theorem dL_411 : decode code 411 = .ok (.iaload, 1) := by decide +kernel
theorem dL_412 : decode code 412 = .ok (.aload_n 0, 1) := by decide +kernel
theorem dL_413 : decode code 413 = .ok (.iload_n 3, 1) := by decide +kernel
theorem dL_414 : decode code 414 = .ok (.iconst 3, 1) := by decide +kernel
theorem dL_415 : decode code 415 = .ok (.iadd, 1) := by decide +kernel
theorem dL_416 : decode code 416 = .ok (.iaload, 1) := by decide +kernel
theorem dL_417 : decode code 417 = .ok (.invokevirtual 62, 3) := by decide +kernel
theorem dL_420 : decode code 420 = .ok (.aload_n 2, 1) := by decide +kernel
theorem dL_421 : decode code 421 = .ok (.aload_n 0, 1) := by decide +kernel
theorem dL_422 : decode code 422 = .ok (.iload_n 3, 1) := by decide +kernel
theorem dL_423 : decode code 423 = .ok (.iconst 1, 1) := by decide +kernel
theorem dL_424 : decode code 424 = .ok (.iadd, 1) := by decide +kernel
theorem dL_425 : decode code 425 = .ok (.iaload, 1) := by decide +kernel
theorem dL_426 : decode code 426 = .ok (.aload_n 0, 1) := by decide +kernel
theorem dL_427 : decode code 427 = .ok (.iload_n 3, 1) := by decide +kernel
theorem dL_428 : decode code 428 = .ok (.iconst 2, 1) := by decide +kernel
theorem dL_429 : decode code 429 = .ok (.iadd, 1) := by decide +kernel
theorem dL_430 : decode code 430 = .ok (.iaload, 1) := by decide +kernel
theorem dL_431 : decode code 431 = .ok (.aload_n 0, 1) := by decide +kernel
theorem dL_432 : decode code 432 = .ok (.iload_n 3, 1) := by decide +kernel
theorem dL_433 : decode code 433 = .ok (.iconst 3, 1) := by decide +kernel
theorem dL_434 : decode code 434 = .ok (.iadd, 1) := by decide +kernel
theorem dL_435 : decode code 435 = .ok (.iaload, 1) := by decide +kernel
theorem dL_436 : decode code 436 = .ok (.invokevirtual 65, 3) := by decide +kernel
theorem dL_439 : decode code 439 = .ok (.if_icmp .eq 210, 3) := by decide +kernel
theorem dL_442 : decode code 442 = .ok (.iconst 0, 1) := by decide +kernel
theorem dL_443 : decode code 443 = .ok (.ireturn, 1) := by decide +kernel
theorem dL_444 : decode code 444 = .ok (.aload_n 1, 1) := by decide +kernel
theorem dL_445 : decode code 445 = .ok (.aload_n 0, 1) := by decide +kernel
theorem dL_446 : decode code 446 = .ok (.iload_n 3, 1) := by decide +kernel
theorem dL_447 : decode code 447 = .ok (.iconst 1, 1) := by decide +kernel
theorem dL_448 : decode code 448 = .ok (.iadd, 1) := by decide +kernel
theorem dL_449 : decode code 449 = .ok (.iaload, 1) := by decide +kernel
theorem dL_450 : decode code 450 = .ok (.aload_n 0, 1) := by decide +kernel
theorem dL_451 : decode code 451 = .ok (.iload_n 3, 1) := by decide +kernel
theorem dL_452 : decode code 452 = .ok (.iconst 2, 1) := by decide +kernel
theorem dL_453 : decode code 453 = .ok (.iadd, 1) := by decide +kernel
theorem dL_454 : decode code 454 = .ok (.iaload, 1) := by decide +kernel
theorem dL_455 : decode code 455 = .ok (.invokevirtual 66, 3) := by decide +kernel
theorem dL_458 : decode code 458 = .ok (.aload_n 2, 1) := by decide +kernel
theorem dL_459 : decode code 459 = .ok (.aload_n 0, 1) := by decide +kernel
theorem dL_460 : decode code 460 = .ok (.iload_n 3, 1) := by decide +kernel
theorem dL_461 : decode code 461 = .ok (.iconst 1, 1) := by decide +kernel
theorem dL_462 : decode code 462 = .ok (.iadd, 1) := by decide +kernel
theorem dL_463 : decode code 463 = .ok (.iaload, 1) := by decide +kernel
theorem dL_464 : decode code 464 = .ok (.aload_n 0, 1) := by decide +kernel
theorem dL_465 : decode code 465 = .ok (.iload_n 3, 1) := by decide +kernel
theorem dL_466 : decode code 466 = .ok (.iconst 2, 1) := by decide +kernel
theorem dL_467 : decode code 467 = .ok (.iadd, 1) := by decide +kernel
theorem dL_468 : decode code 468 = .ok (.iaload, 1) := by decide +kernel
theorem dL_469 : decode code 469 = .ok (.invokevirtual 69, 3) := by decide +kernel
theorem dL_472 : decode code 472 = .ok (.if_icmp .eq 177, 3) := by decide +kernel
theorem dL_475 : decode code 475 = .ok (.iconst 0, 1) := by decide +kernel
theorem dL_476 : decode code 476 = .ok (.ireturn, 1) := by decide +kernel
theorem dL_477 : decode code 477 = .ok (.aload_n 1, 1) := by decide +kernel
theorem dL_478 : decode code 478 = .ok (.aload_n 0, 1) := by decide +kernel
theorem dL_479 : decode code 479 = .ok (.iload_n 3, 1) := by decide +kernel
theorem dL_480 : decode code 480 = .ok (.iconst 1, 1) := by decide +kernel
theorem dL_481 : decode code 481 = .ok (.iadd, 1) := by decide +kernel
theorem dL_482 : decode code 482 = .ok (.iaload, 1) := by decide +kernel
theorem dL_483 : decode code 483 = .ok (.aload_n 0, 1) := by decide +kernel
theorem dL_484 : decode code 484 = .ok (.iload_n 3, 1) := by decide +kernel
theorem dL_485 : decode code 485 = .ok (.iconst 2, 1) := by decide +kernel
theorem dL_486 : decode code 486 = .ok (.iadd, 1) := by decide +kernel
theorem dL_487 : decode code 487 = .ok (.iaload, 1) := by decide +kernel
theorem dL_488 : decode code 488 = .ok (.invokevirtual 70, 3) := by decide +kernel
theorem dL_491 : decode code 491 = .ok (.aload_n 2, 1) := by decide +kernel
theorem dL_492 : decode code 492 = .ok (.aload_n 0, 1) := by decide +kernel
theorem dL_493 : decode code 493 = .ok (.iload_n 3, 1) := by decide +kernel
theorem dL_494 : decode code 494 = .ok (.iconst 1, 1) := by decide +kernel
theorem dL_495 : decode code 495 = .ok (.iadd, 1) := by decide +kernel
theorem dL_496 : decode code 496 = .ok (.iaload, 1) := by decide +kernel
theorem dL_497 : decode code 497 = .ok (.aload_n 0, 1) := by decide +kernel
theorem dL_498 : decode code 498 = .ok (.iload_n 3, 1) := by decide +kernel
theorem dL_499 : decode code 499 = .ok (.iconst 2, 1) := by decide +kernel
theorem dL_500 : decode code 500 = .ok (.iadd, 1) := by decide +kernel
theorem dL_501 : decode code 501 = .ok (.iaload, 1) := by decide +kernel
theorem dL_502 : decode code 502 = .ok (.invokevirtual 73, 3) := by decide +kernel
theorem dL_505 : decode code 505 = .ok (.if_icmp .eq 144, 3) := by decide +kernel
theorem dL_508 : decode code 508 = .ok (.iconst 0, 1) := by decide +kernel
theorem dL_509 : decode code 509 = .ok (.ireturn, 1) := by decide +kernel
theorem dL_510 : decode code 510 = .ok (.aload_n 1, 1) := by decide +kernel
theorem dL_511 : decode code 511 = .ok (.aload_n 0, 1) := by decide +kernel
theorem dL_512 : decode code 512 = .ok (.iload_n 3, 1) := by decide +kernel
theorem dL_513 : decode code 513 = .ok (.iconst 1, 1) := by decide +kernel
theorem dL_514 : decode code 514 = .ok (.iadd, 1) := by decide +kernel
theorem dL_515 : decode code 515 = .ok (.iaload, 1) := by decide +kernel
theorem dL_516 : decode code 516 = .ok (.aload_n 0, 1) := by decide +kernel
theorem dL_517 : decode code 517 = .ok (.iload_n 3, 1) := by decide +kernel
theorem dL_518 : decode code 518 = .ok (.iconst 2, 1) := by decide +kernel
theorem dL_519 : decode code 519 = .ok (.iadd, 1) := by decide +kernel
