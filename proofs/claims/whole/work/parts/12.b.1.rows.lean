theorem dl_391 : decode code 391 = .ok (.if_icmp .eq 496, 3) := by decide +kernel
theorem dl_394 : decode code 394 = .ok (.iconst 0, 1) := by decide +kernel
theorem dl_395 : decode code 395 = .ok (.ireturn, 1) := by decide +kernel
theorem dl_396 : decode code 396 = .ok (.aload_n 1, 1) := by decide +kernel
theorem dl_397 : decode code 397 = .ok (.invokevirtual 56, 3) := by decide +kernel
theorem dl_400 : decode code 400 = .ok (.aload_n 2, 1) := by decide +kernel
theorem dl_401 : decode code 401 = .ok (.invokevirtual 59, 3) := by decide +kernel
theorem dl_404 : decode code 404 = .ok (.if_icmp .eq 483, 3) := by decide +kernel
theorem dl_407 : decode code 407 = .ok (.iconst 0, 1) := by decide +kernel
theorem dl_408 : decode code 408 = .ok (.ireturn, 1) := by decide +kernel
theorem dl_409 : decode code 409 = .ok (.aload_n 1, 1) := by decide +kernel
theorem dl_410 : decode code 410 = .ok (.aload_n 0, 1) := by decide +kernel
theorem dl_411 : decode code 411 = .ok (.iload_n 3, 1) := by decide +kernel
theorem dl_412 : decode code 412 = .ok (.iconst 1, 1) := by decide +kernel
theorem dl_413 : decode code 413 = .ok (.iadd, 1) := by decide +kernel
theorem dl_414 : decode code 414 = .ok (.iaload, 1) := by decide +kernel
theorem dl_415 : decode code 415 = .ok (.aload_n 0, 1) := by decide +kernel
theorem dl_416 : decode code 416 = .ok (.iload_n 3, 1) := by decide +kernel
theorem dl_417 : decode code 417 = .ok (.iconst 2, 1) := by decide +kernel
theorem dl_418 : decode code 418 = .ok (.iadd, 1) := by decide +kernel
theorem dl_419 : decode code 419 = .ok (.iaload, 1) := by decide +kernel
theorem dl_420 : decode code 420 = .ok (.aload_n 0, 1) := by decide +kernel
theorem dl_421 : decode code 421 = .ok (.iload_n 3, 1) := by decide +kernel
theorem dl_422 : decode code 422 = .ok (.iconst 3, 1) := by decide +kernel
theorem dl_423 : decode code 423 = .ok (.iadd, 1) := by decide +kernel
theorem dl_424 : decode code 424 = .ok (.iaload, 1) := by decide +kernel
theorem dl_425 : decode code 425 = .ok (.invokevirtual 60, 3) := by decide +kernel
theorem dl_428 : decode code 428 = .ok (.aload_n 2, 1) := by decide +kernel
theorem dl_429 : decode code 429 = .ok (.aload_n 0, 1) := by decide +kernel
theorem dl_430 : decode code 430 = .ok (.iload_n 3, 1) := by decide +kernel
theorem dl_431 : decode code 431 = .ok (.iconst 1, 1) := by decide +kernel
theorem dl_432 : decode code 432 = .ok (.iadd, 1) := by decide +kernel
theorem dl_433 : decode code 433 = .ok (.iaload, 1) := by decide +kernel
theorem dl_434 : decode code 434 = .ok (.aload_n 0, 1) := by decide +kernel
theorem dl_435 : decode code 435 = .ok (.iload_n 3, 1) := by decide +kernel
theorem dl_436 : decode code 436 = .ok (.iconst 2, 1) := by decide +kernel
theorem dl_437 : decode code 437 = .ok (.iadd, 1) := by decide +kernel
theorem dl_438 : decode code 438 = .ok (.iaload, 1) := by decide +kernel
theorem dl_439 : decode code 439 = .ok (.aload_n 0, 1) := by decide +kernel
theorem dl_440 : decode code 440 = .ok (.iload_n 3, 1) := by decide +kernel
theorem dl_441 : decode code 441 = .ok (.iconst 3, 1) := by decide +kernel
theorem dl_442 : decode code 442 = .ok (.iadd, 1) := by decide +kernel
theorem dl_443 : decode code 443 = .ok (.iaload, 1) := by decide +kernel
theorem dl_444 : decode code 444 = .ok (.invokevirtual 64, 3) := by decide +kernel
theorem dl_447 : decode code 447 = .ok (.if_icmp .eq 440, 3) := by decide +kernel
theorem dl_450 : decode code 450 = .ok (.iconst 0, 1) := by decide +kernel
theorem dl_451 : decode code 451 = .ok (.ireturn, 1) := by decide +kernel
theorem dl_452 : decode code 452 = .ok (.aload_n 1, 1) := by decide +kernel
theorem dl_453 : decode code 453 = .ok (.aload_n 0, 1) := by decide +kernel
theorem dl_454 : decode code 454 = .ok (.iload_n 3, 1) := by decide +kernel
theorem dl_455 : decode code 455 = .ok (.iconst 1, 1) := by decide +kernel
theorem dl_456 : decode code 456 = .ok (.iadd, 1) := by decide +kernel
theorem dl_457 : decode code 457 = .ok (.iaload, 1) := by decide +kernel
theorem dl_458 : decode code 458 = .ok (.invokevirtual 65, 3) := by decide +kernel
theorem dl_461 : decode code 461 = .ok (.aload_n 2, 1) := by decide +kernel
theorem dl_462 : decode code 462 = .ok (.aload_n 0, 1) := by decide +kernel
theorem dl_463 : decode code 463 = .ok (.iload_n 3, 1) := by decide +kernel
theorem dl_464 : decode code 464 = .ok (.iconst 1, 1) := by decide +kernel
theorem dl_465 : decode code 465 = .ok (.iadd, 1) := by decide +kernel
theorem dl_466 : decode code 466 = .ok (.iaload, 1) := by decide +kernel
theorem dl_467 : decode code 467 = .ok (.invokevirtual 68, 3) := by decide +kernel
theorem dl_470 : decode code 470 = .ok (.if_icmp .eq 417, 3) := by decide +kernel
theorem dl_473 : decode code 473 = .ok (.iconst 0, 1) := by decide +kernel
theorem dl_474 : decode code 474 = .ok (.ireturn, 1) := by decide +kernel
theorem dl_475 : decode code 475 = .ok (.aload_n 1, 1) := by decide +kernel
theorem dl_476 : decode code 476 = .ok (.aload_n 0, 1) := by decide +kernel
theorem dl_477 : decode code 477 = .ok (.iload_n 3, 1) := by decide +kernel
theorem dl_478 : decode code 478 = .ok (.iconst 1, 1) := by decide +kernel
theorem dl_479 : decode code 479 = .ok (.iadd, 1) := by decide +kernel
theorem dl_480 : decode code 480 = .ok (.iaload, 1) := by decide +kernel
theorem dl_481 : decode code 481 = .ok (.aload_n 0, 1) := by decide +kernel
theorem dl_482 : decode code 482 = .ok (.iload_n 3, 1) := by decide +kernel
theorem dl_483 : decode code 483 = .ok (.iconst 2, 1) := by decide +kernel
theorem dl_484 : decode code 484 = .ok (.iadd, 1) := by decide +kernel
theorem dl_485 : decode code 485 = .ok (.iaload, 1) := by decide +kernel
theorem dl_486 : decode code 486 = .ok (.invokevirtual 69, 3) := by decide +kernel
theorem dl_489 : decode code 489 = .ok (.aload_n 2, 1) := by decide +kernel
theorem dl_490 : decode code 490 = .ok (.aload_n 0, 1) := by decide +kernel
theorem dl_491 : decode code 491 = .ok (.iload_n 3, 1) := by decide +kernel
theorem dl_492 : decode code 492 = .ok (.iconst 1, 1) := by decide +kernel
theorem dl_493 : decode code 493 = .ok (.iadd, 1) := by decide +kernel
theorem dl_494 : decode code 494 = .ok (.iaload, 1) := by decide +kernel
theorem dl_495 : decode code 495 = .ok (.aload_n 0, 1) := by decide +kernel
theorem dl_496 : decode code 496 = .ok (.iload_n 3, 1) := by decide +kernel
theorem dl_497 : decode code 497 = .ok (.iconst 2, 1) := by decide +kernel
theorem dl_498 : decode code 498 = .ok (.iadd, 1) := by decide +kernel
theorem dl_499 : decode code 499 = .ok (.iaload, 1) := by decide +kernel
theorem dl_500 : decode code 500 = .ok (.invokevirtual 72, 3) := by decide +kernel
theorem dl_503 : decode code 503 = .ok (.if_icmp .eq 384, 3) := by decide +kernel
theorem dl_506 : decode code 506 = .ok (.iconst 0, 1) := by decide +kernel
theorem dl_507 : decode code 507 = .ok (.ireturn, 1) := by decide +kernel
theorem dl_508 : decode code 508 = .ok (.aload_n 1, 1) := by decide +kernel
theorem dl_509 : decode code 509 = .ok (.aload_n 0, 1) := by decide +kernel
theorem dl_510 : decode code 510 = .ok (.iload_n 3, 1) := by decide +kernel
theorem dl_511 : decode code 511 = .ok (.iconst 1, 1) := by decide +kernel
theorem dl_512 : decode code 512 = .ok (.iadd, 1) := by decide +kernel
theorem dl_513 : decode code 513 = .ok (.iaload, 1) := by decide +kernel
theorem dl_514 : decode code 514 = .ok (.aload_n 0, 1) := by decide +kernel
theorem dl_515 : decode code 515 = .ok (.iload_n 3, 1) := by decide +kernel
theorem dl_516 : decode code 516 = .ok (.iconst 2, 1) := by decide +kernel
theorem dl_517 : decode code 517 = .ok (.iadd, 1) := by decide +kernel
theorem dl_518 : decode code 518 = .ok (.iaload, 1) := by decide +kernel
theorem dl_519 : decode code 519 = .ok (.invokevirtual 73, 3) := by decide +kernel
theorem dl_522 : decode code 522 = .ok (.aload_n 2, 1) := by decide +kernel
theorem dl_523 : decode code 523 = .ok (.aload_n 0, 1) := by decide +kernel
theorem dl_524 : decode code 524 = .ok (.iload_n 3, 1) := by decide +kernel
theorem dl_525 : decode code 525 = .ok (.iconst 1, 1) := by decide +kernel
theorem dl_526 : decode code 526 = .ok (.iadd, 1) := by decide +kernel
theorem dl_527 : decode code 527 = .ok (.iaload, 1) := by decide +kernel
theorem dl_528 : decode code 528 = .ok (.aload_n 0, 1) := by decide +kernel
theorem dl_529 : decode code 529 = .ok (.iload_n 3, 1) := by decide +kernel
theorem dl_530 : decode code 530 = .ok (.iconst 2, 1) := by decide +kernel
theorem dl_531 : decode code 531 = .ok (.iadd, 1) := by decide +kernel
theorem dl_532 : decode code 532 = .ok (.iaload, 1) := by decide +kernel
theorem dl_533 : decode code 533 = .ok (.invokevirtual 76, 3) := by decide +kernel
theorem dl_536 : decode code 536 = .ok (.if_icmp .eq 351, 3) := by decide +kernel
theorem dl_539 : decode code 539 = .ok (.iconst 0, 1) := by decide +kernel
theorem dl_540 : decode code 540 = .ok (.ireturn, 1) := by decide +kernel
theorem dl_541 : decode code 541 = .ok (.aload_n 1, 1) := by decide +kernel
theorem dl_542 : decode code 542 = .ok (.aload_n 0, 1) := by decide +kernel
theorem dl_543 : decode code 543 = .ok (.iload_n 3, 1) := by decide +kernel
theorem dl_544 : decode code 544 = .ok (.iconst 1, 1) := by decide +kernel
theorem dl_545 : decode code 545 = .ok (.iadd, 1) := by decide +kernel
theorem dl_546 : decode code 546 = .ok (.iaload, 1) := by decide +kernel
theorem dl_547 : decode code 547 = .ok (.aload_n 0, 1) := by decide +kernel
theorem dl_548 : decode code 548 = .ok (.iload_n 3, 1) := by decide +kernel
theorem dl_549 : decode code 549 = .ok (.iconst 2, 1) := by decide +kernel
theorem dl_550 : decode code 550 = .ok (.iadd, 1) := by decide +kernel
theorem dl_551 : decode code 551 = .ok (.iaload, 1) := by decide +kernel
theorem dl_552 : decode code 552 = .ok (.invokevirtual 77, 3) := by decide +kernel
theorem dl_555 : decode code 555 = .ok (.aload_n 2, 1) := by decide +kernel
theorem dl_556 : decode code 556 = .ok (.aload_n 0, 1) := by decide +kernel
theorem dl_557 : decode code 557 = .ok (.iload_n 3, 1) := by decide +kernel
theorem dl_558 : decode code 558 = .ok (.iconst 1, 1) := by decide +kernel
theorem dl_559 : decode code 559 = .ok (.iadd, 1) := by decide +kernel
theorem dl_560 : decode code 560 = .ok (.iaload, 1) := by decide +kernel
theorem dl_561 : decode code 561 = .ok (.aload_n 0, 1) := by decide +kernel
theorem dl_562 : decode code 562 = .ok (.iload_n 3, 1) := by decide +kernel
theorem dl_563 : decode code 563 = .ok (.iconst 2, 1) := by decide +kernel
theorem dl_564 : decode code 564 = .ok (.iadd, 1) := by decide +kernel
theorem dl_565 : decode code 565 = .ok (.iaload, 1) := by decide +kernel
theorem dl_566 : decode code 566 = .ok (.invokevirtual 80, 3) := by decide +kernel
theorem dl_569 : decode code 569 = .ok (.if_icmp .eq 318, 3) := by decide +kernel
theorem dl_572 : decode code 572 = .ok (.iconst 0, 1) := by decide +kernel
theorem dl_573 : decode code 573 = .ok (.ireturn, 1) := by decide +kernel
theorem dl_574 : decode code 574 = .ok (.aload_n 1, 1) := by decide +kernel
theorem dl_575 : decode code 575 = .ok (.aload_n 0, 1) := by decide +kernel
theorem dl_576 : decode code 576 = .ok (.iload_n 3, 1) := by decide +kernel
theorem dl_577 : decode code 577 = .ok (.iconst 1, 1) := by decide +kernel
theorem dl_578 : decode code 578 = .ok (.iadd, 1) := by decide +kernel
theorem dl_579 : decode code 579 = .ok (.iaload, 1) := by decide +kernel
theorem dl_580 : decode code 580 = .ok (.aload_n 0, 1) := by decide +kernel
theorem dl_581 : decode code 581 = .ok (.iload_n 3, 1) := by decide +kernel
theorem dl_582 : decode code 582 = .ok (.iconst 2, 1) := by decide +kernel
theorem dl_583 : decode code 583 = .ok (.iadd, 1) := by decide +kernel
theorem dl_584 : decode code 584 = .ok (.iaload, 1) := by decide +kernel
theorem dl_585 : decode code 585 = .ok (.invokevirtual 81, 3) := by decide +kernel
theorem dl_588 : decode code 588 = .ok (.aload_n 2, 1) := by decide +kernel
theorem dl_589 : decode code 589 = .ok (.aload_n 0, 1) := by decide +kernel
theorem dl_590 : decode code 590 = .ok (.iload_n 3, 1) := by decide +kernel
theorem dl_591 : decode code 591 = .ok (.iconst 1, 1) := by decide +kernel
theorem dl_592 : decode code 592 = .ok (.iadd, 1) := by decide +kernel
theorem dl_593 : decode code 593 = .ok (.iaload, 1) := by decide +kernel
theorem dl_594 : decode code 594 = .ok (.aload_n 0, 1) := by decide +kernel
theorem dl_595 : decode code 595 = .ok (.iload_n 3, 1) := by decide +kernel
theorem dl_596 : decode code 596 = .ok (.iconst 2, 1) := by decide +kernel
theorem dl_597 : decode code 597 = .ok (.iadd, 1) := by decide +kernel
theorem dl_598 : decode code 598 = .ok (.iaload, 1) := by decide +kernel
theorem dl_599 : decode code 599 = .ok (.invokevirtual 84, 3) := by decide +kernel
theorem dl_602 : decode code 602 = .ok (.if_icmp .eq 285, 3) := by decide +kernel
theorem dl_605 : decode code 605 = .ok (.iconst 0, 1) := by decide +kernel
theorem dl_606 : decode code 606 = .ok (.ireturn, 1) := by decide +kernel
theorem dl_607 : decode code 607 = .ok (.aload_n 1, 1) := by decide +kernel
theorem dl_608 : decode code 608 = .ok (.aload_n 0, 1) := by decide +kernel
theorem dl_609 : decode code 609 = .ok (.iload_n 3, 1) := by decide +kernel
theorem dl_610 : decode code 610 = .ok (.iconst 1, 1) := by decide +kernel
theorem dl_611 : decode code 611 = .ok (.iadd, 1) := by decide +kernel
theorem dl_612 : decode code 612 = .ok (.iaload, 1) := by decide +kernel
theorem dl_613 : decode code 613 = .ok (.aload_n 0, 1) := by decide +kernel
theorem dl_614 : decode code 614 = .ok (.iload_n 3, 1) := by decide +kernel
theorem dl_615 : decode code 615 = .ok (.iconst 2, 1) := by decide +kernel
theorem dl_616 : decode code 616 = .ok (.iadd, 1) := by decide +kernel
theorem dl_617 : decode code 617 = .ok (.iaload, 1) := by decide +kernel
theorem dl_618 : decode code 618 = .ok (.invokevirtual 85, 3) := by decide +kernel
theorem dl_621 : decode code 621 = .ok (.aload_n 2, 1) := by decide +kernel
theorem dl_622 : decode code 622 = .ok (.aload_n 0, 1) := by decide +kernel
theorem dl_623 : decode code 623 = .ok (.iload_n 3, 1) := by decide +kernel
theorem dl_624 : decode code 624 = .ok (.iconst 1, 1) := by decide +kernel
theorem dl_625 : decode code 625 = .ok (.iadd, 1) := by decide +kernel
theorem dl_626 : decode code 626 = .ok (.iaload, 1) := by decide +kernel
theorem dl_627 : decode code 627 = .ok (.aload_n 0, 1) := by decide +kernel
theorem dl_628 : decode code 628 = .ok (.iload_n 3, 1) := by decide +kernel
theorem dl_629 : decode code 629 = .ok (.iconst 2, 1) := by decide +kernel
theorem dl_630 : decode code 630 = .ok (.iadd, 1) := by decide +kernel
theorem dl_631 : decode code 631 = .ok (.iaload, 1) := by decide +kernel
theorem dl_632 : decode code 632 = .ok (.invokevirtual 88, 3) := by decide +kernel
theorem dl_635 : decode code 635 = .ok (.if_icmp .eq 252, 3) := by decide +kernel
theorem dl_638 : decode code 638 = .ok (.iconst 0, 1) := by decide +kernel
theorem dl_639 : decode code 639 = .ok (.ireturn, 1) := by decide +kernel
